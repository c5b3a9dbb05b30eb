/-! classes: what the tables say of them, and the laws of fields, arrays, calls and returns over X -/
def gcl (ci : Nat) : vw_C := classes.getD ci ("", fun _ => ("", "", "", false), 0)
theorem cl_at {ci : Nat} (h : ci < 13) : classes[ci]? = some (gcl ci) := by
  have hl : ci < classes.length := h
  simp [gcl, List.getElem?_eq_getElem hl]
set_option maxRecDepth 100000 in
theorem cl_n : ∀ ci, ci < 13 → nfs ci = (gcl ci).2.2 := by decide +kernel
set_option maxRecDepth 100000 in
theorem cl_in0 : ∀ ci, ci < 13 → ∀ k, k < (gcl ci).2.2 → u_lay (gcl ci).1 (gcl ci).2.1 k ∈ WS := by decide +kernel
theorem cl_in {ci : Nat} (h : ci < 13) : ∀ w ∈ u_ws (gcl ci).1 (gcl ci).2.1 (gcl ci).2.2, w ∈ WS := by
  intro w hw
  obtain ⟨k, hk, rfl⟩ := List.mem_map.mp hw
  exact cl_in0 ci h k (List.mem_range.mp hk)
set_option maxRecDepth 100000 in
theorem cl_ty : ∀ ci, ci < 13 → ∀ k, k < (gcl ci).2.2 → parseFieldDescriptor ((gcl ci).2.1 k).2.2.1 = some (clty ci k) := by decide +kernel
set_option maxRecDepth 100000 in
theorem cl_nm : ∀ ci, ci < 13 → ∀ a, a < (gcl ci).2.2 → ∀ b, b < (gcl ci).2.2 → a ≠ b → ((gcl ci).2.1 a).2.1 ≠ ((gcl ci).2.1 b).2.1 := by decide +kernel
set_option maxRecDepth 100000 in
theorem cl_own : ∀ ci, ci < 13 → ∀ k, k < (gcl ci).2.2 → ((gcl ci).2.1 k).1 = (gcl ci).1 := by decide +kernel
/-- an entry of own's pool names field j of class ci -/
def FL (own : String) (idx ci j : Nat) : Prop := ci < 13 ∧ j < (gcl ci).2.2 ∧ Cond.fieldLink own idx (gcl ci).1 ((gcl ci).2.1 j).2.1 ((gcl ci).2.1 j).2.2.1 ∈ WS
theorem rngmap_at {α : Type} {f : Nat → α} {N j : Nat} (h : j < N) : ((List.range N).map f)[j]? = some (f j) := by
  rw [List.getElem?_map, List.getElem?_range h]
  rfl
theorem rngmap_set {α : Type} {f f' : Nat → α} {N j : Nat} {v : α} (hv : f' j = v) (ho : ∀ i, i ≠ j → f' i = f i) : ((List.range N).map f).set j v = (List.range N).map f' := by
  apply List.ext_getElem?
  intro i
  by_cases hi : i < N
  · rw [rngmap_at hi]
    by_cases hij : i = j
    · subst hij
      rw [List.getElem?_set_self (by simp [hi]), hv]
    · rw [List.getElem?_set_ne (Ne.symm hij), rngmap_at hi, ho i hij]
  · rw [List.getElem?_eq_none (by simp; omega), List.getElem?_eq_none (by simp; omega)]
section XH
variable {κ : KX} {own : String} {b : ByteArray} {d : Nat}
variable {n pc q : Nat} {L : List (Option Value)} {st : List Value} {h : Hp}
theorem ent_obj {g : CX} {k ci : Nat} (hs : shp k = .inl ci) (h : Hp) : entS g (shp k) (h k) = .inr (ci, (List.range (nfs ci)).map (fun j => vV g (h k j))) := by rw [hs]; rfl
theorem ent_arr {g : CX} {k ty len : Nat} (hs : shp k = .inr (ty, len)) (h : Hp) : entS g (shp k) (h k) = .inl (cxT g ty, arrE g ty len (h k)) := by rw [hs]; rfl
theorem ref_adr {g : CX} {k : Nat} {st : List Value} (hk : k < 2000) : (Value.ref k :: st).map (vV g) = .ref (cxb g + k) :: st.map (vV g) := by
  show Value.ref (adr g k) :: _ = _
  rw [adr_lt hk]
theorem x_get {idx ci j k : Nat} (G : Gc κ own b d) (hd : dc b pc q (.getfield idx) 3) (fl : FL own idx ci j) (hs : shp k = .inl ci) (hk : k < n ∧ n ≤ 2000) (kk : X κ n q L (h k j :: st) h) : X κ n pc L (.ref k :: st) h := by
  obtain ⟨hd, rfl⟩ := hd
  obtain ⟨hci, hj, hlk⟩ := fl
  intro H locs ls hz hP hS hl
  have hat := wsL_at (g := kg κ) (h := h) hk.1
  rw [ent_obj hs] at hat
  rw [ref_adr (by omega)]
  exact va_get (C := (gcl ci).1) (T := (gcl ci).2.1) (N := (gcl ci).2.2) G.exec G.code G.words (cl_in hci) G.owns G.hK hP k hat (cl_at hci) j hj (G.words _ hlk) (fun x hx => by rw [cl_own ci hci j hj] at hx; exact hx) (rngmap_at (by rw [cl_n ci hci]; exact hj)) hd (kk H locs ls hz hP hS hl)
theorem x_put {idx ci j k : Nat} {v : Value} (G : Gc κ own b d) (hd : dc b pc q (.putfield idx) 3) (fl : FL own idx ci j) (hs : shp k = .inl ci) (hk : k < n ∧ n ≤ 2000) (hfin : ((gcl ci).2.1 j).2.2.2 = false) (hn : narrow (clty ci j) (vV (kg κ) v) = vV (kg κ) v) (hf : fits (clty ci j) (vV (kg κ) v) = true) (kk : X κ n q L st (updh h k j v)) : X κ n pc L (v :: .ref k :: st) h := by
  obtain ⟨hd, rfl⟩ := hd
  obtain ⟨hci, hj, hlk⟩ := fl
  intro H locs ls hz hP hS hl
  have hat := wsL_at (g := kg κ) (h := h) hk.1
  rw [ent_obj hs] at hat
  rw [show (v :: Value.ref k :: st).map (vV (kg κ)) = vV (kg κ) v :: .ref (cxb (kg κ) + k) :: st.map (vV (kg κ)) by rw [List.map_cons, ref_adr (by omega)]]
  refine va_put (C := (gcl ci).1) (T := (gcl ci).2.1) (N := (gcl ci).2.2) G.exec G.code G.words (cl_in hci) (clty ci) (cl_ty ci hci) (cl_nm ci hci) G.owns G.hK hP (wsL_D _ _ _) hS k hat (cl_at hci) j hj (G.words _ hlk) (fun x hx => by rw [cl_own ci hci j hj] at hx; exact hx) hfin (cl_ty ci hci j hj) hn hf (by rw [List.length_map, List.length_range, cl_n ci hci]; exact hj) hd (fun H1 locs1 hP1 _ hS1 => ?_)
  rw [wsL_set (h' := updh h k j v) hk.1 ?_ (fun i hi => updh_ne hi)] at hP1
  · exact kk H1 locs1 ls hz hP1 hS1 hl
  · rw [ent_obj hs]
    rw [rngmap_set (f' := fun i => vV (kg κ) (updh h k j v k i)) (by simp [updh]) (fun i hi => by simp [updh, hi])]
theorem arrE_i {g : CX} {ty len : Nat} (ht : ty ≤ 1) (f : Nat → Value) : arrE g ty len f = (len, .inl (fun j => iv (f j))) := if_pos ht
theorem arrE_q {g : CX} {ty len : Nat} (ht : ¬ ty ≤ 1) (f : Nat → Value) : arrE g ty len f = (len, .inr (.inr (.inr (.inr (fun j => rv g (f j)))))) := if_neg ht
theorem x_iald {k len : Nat} {i x : Int32} (G : Gc κ own b d) (hd : dc b pc q .iaload 1) (hs : shp k = .inr (0, len)) (hk : k < n ∧ n ≤ 2000) (j : Nat) (hi : i = nI j) (hj : j < len ∧ len < 2 ^ 31) (hv : h k j = .int x) (kk : X κ n q L (.int x :: st) h) : X κ n pc L (.int i :: .ref k :: st) h := by
  obtain ⟨hd, rfl⟩ := hd
  intro H locs ls hz hP hS hl
  have hat := wsL_at (g := kg κ) (h := h) hk.1
  rw [ent_arr hs, arrE_i (by decide)] at hat
  rw [show (Value.int i :: Value.ref k :: st).map (vV (kg κ)) = .int i :: .ref (cxb (kg κ) + k) :: st.map (vV (kg κ)) by rw [List.map_cons, ref_adr (by omega)]; rfl]
  refine va_iald G.exec G.code G.hK hP k 0 hat (tysL_at _ (by decide)) (by rw [hi]; exact nI_in hj.1 hj.2) hd ?_
  rw [hi, nI_clamp (by omega), hv]
  exact kk H locs ls hz hP hS hl
theorem x_zald {k len : Nat} {i x : Int32} (G : Gc κ own b d) (hd : dc b pc q .baload 1) (hs : shp k = .inr (1, len)) (hk : k < n ∧ n ≤ 2000) (j : Nat) (hi : i = nI j) (hj : j < len ∧ len < 2 ^ 31) (hv : h k j = .int x) (kk : X κ n q L (.int x :: st) h) : X κ n pc L (.int i :: .ref k :: st) h := by
  obtain ⟨hd, rfl⟩ := hd
  intro H locs ls hz hP hS hl
  have hat := wsL_at (g := kg κ) (h := h) hk.1
  rw [ent_arr hs, arrE_i (by decide)] at hat
  rw [show (Value.int i :: Value.ref k :: st).map (vV (kg κ)) = .int i :: .ref (cxb (kg κ) + k) :: st.map (vV (kg κ)) by rw [List.map_cons, ref_adr (by omega)]; rfl]
  refine va_zald G.exec G.code G.hK hP k 1 hat (tysL_at _ (by decide)) (by rw [hi]; exact nI_in hj.1 hj.2) hd ?_
  rw [hi, nI_clamp (by omega), hv]
  exact kk H locs ls hz hP hS hl
theorem x_aald {k ty len r : Nat} {i : Int32} (G : Gc κ own b d) (hd : dc b pc q .aaload 1) (hs : shp k = .inr (ty, len)) (hty : 1 < ty ∧ ty < 6) (hk : k < n ∧ n ≤ 2000) (j : Nat) (hi : i = nI j) (hj : j < len ∧ len < 2 ^ 31) (hv : h k j = .ref r) (kk : X κ n q L (.ref r :: st) h) : X κ n pc L (.int i :: .ref k :: st) h := by
  obtain ⟨hd, rfl⟩ := hd
  intro H locs ls hz hP hS hl
  have hat := wsL_at (g := kg κ) (h := h) hk.1
  rw [ent_arr hs, arrE_q (by omega)] at hat
  have hin : vp_in i len := by rw [hi]; exact nI_in hj.1 hj.2
  have hlt : i.toNatClampNeg < len := Nat.not_le.mp fun q => hin (Or.inr q)
  have href : (atys ty).isReference = true := by
    rcases (show ty = 2 ∨ ty = 3 ∨ ty = 4 ∨ ty = 5 by omega) with rfl | rfl | rfl | rfl <;> rfl
  have hr : va_rf (rv (kg κ) (h k i.toNatClampNeg)) = .ref (adr (kg κ) r) := by rw [hi, nI_clamp (by omega), hv]; rfl
  rw [show (Value.int i :: Value.ref k :: st).map (vV (kg κ)) = .int i :: .ref (cxb (kg κ) + k) :: st.map (vV (kg κ)) by rw [List.map_cons, ref_adr (by omega)]; rfl]
  refine W.aald (v := .ref (adr (kg κ) r)) (ty := atys ty) G.exec G.code (hP k _ hat) ((G.hK.2 ty _ (tysL_at _ hty.2)).1 len (fun j => va_rf (rv (kg κ) (h k j)))) href (fun q => by cases q) (by show ¬ (i < 0 ∨ (arrV _ _ _).slots.size ≤ _); rw [arrV_size]; exact hin) (by show (arrV _ _ _).slots[_]? = _; rw [arrV_read _ _ hlt, hr]) rfl rfl hd ?_
  exact kk H locs ls hz hP hS hl
theorem x_alen {k ty len : Nat} {v : Int32} (G : Gc κ own b d) (hd : dc b pc q .arraylength 1) (hs : shp k = .inr (ty, len)) (hty : ty < 6) (hk : k < n ∧ n ≤ 2000) (hv : Int32.ofNat len = v) (kk : X κ n q L (.int v :: st) h) : X κ n pc L (.ref k :: st) h := by
  obtain ⟨hd, rfl⟩ := hd
  intro H locs ls hz hP hS hl
  have hat := wsL_at (g := kg κ) (h := h) hk.1
  rw [ent_arr hs] at hat
  rw [ref_adr (by omega)]
  refine va_alen G.exec G.code G.hK hP k ty hat (tysL_at _ hty) (v := v) (by rw [← hv]; unfold arrE; split <;> rfl) hd ?_
  exact kk H locs ls hz hP hS hl
theorem arrset {g : CX} {k j len ty : Nat} {x : Int32} {h : Hp} (hs : shp k = .inr (ty, len)) (ht : ty ≤ 1) : (.inl (cxT g ty, len, .inl (upd (fun j => iv (h k j)) j x)) : va_E) = entS g (shp k) (updh h k j (.int x) k) := by
  rw [ent_arr hs, arrE_i ht]
  congr 4
  funext i
  by_cases hi : i = j
  · subst hi
    simp [upd, updh, iv]
  · simp [upd, updh, hi]
theorem x_iast {k len : Nat} {i x : Int32} (G : Gc κ own b d) (hd : dc b pc q .iastore 1) (hs : shp k = .inr (0, len)) (hk : k < n ∧ n ≤ 2000) (j : Nat) (hi : i = nI j) (hj : j < len ∧ len < 2 ^ 31) (kk : X κ n q L st (updh h k j (.int x))) : X κ n pc L (.int x :: .int i :: .ref k :: st) h := by
  obtain ⟨hd, rfl⟩ := hd
  intro H locs ls hz hP hS hl
  have hat := wsL_at (g := kg κ) (h := h) hk.1
  rw [ent_arr hs, arrE_i (by decide)] at hat
  rw [show (Value.int x :: Value.int i :: Value.ref k :: st).map (vV (kg κ)) = .int x :: .int i :: .ref (cxb (kg κ) + k) :: st.map (vV (kg κ)) by rw [List.map_cons, List.map_cons, ref_adr (by omega)]; rfl]
  refine va_iast G.exec G.code G.hK hP (wsL_D _ _ _) hS k 0 hat (tysL_at _ (by decide)) (by rw [hi]; exact nI_in hj.1 hj.2) hd (fun H1 locs1 hP1 _ hS1 => ?_)
  rw [hi, nI_clamp (by omega), wsL_set (h' := updh h k j (.int x)) hk.1 (arrset hs (by decide)) (fun i hi => updh_ne hi)] at hP1
  exact kk H1 locs1 ls hz hP1 hS1 hl
theorem x_zast {k len : Nat} {i x : Int32} (G : Gc κ own b d) (hd : dc b pc q .bastore 1) (hs : shp k = .inr (1, len)) (hk : k < n ∧ n ≤ 2000) (j : Nat) (hi : i = nI j) (hj : j < len ∧ len < 2 ^ 31) (hx : vp_nar .boolean x = x) (kk : X κ n q L st (updh h k j (.int x))) : X κ n pc L (.int x :: .int i :: .ref k :: st) h := by
  obtain ⟨hd, rfl⟩ := hd
  intro H locs ls hz hP hS hl
  have hat := wsL_at (g := kg κ) (h := h) hk.1
  rw [ent_arr hs, arrE_i (by decide)] at hat
  rw [show (Value.int x :: Value.int i :: Value.ref k :: st).map (vV (kg κ)) = .int x :: .int i :: .ref (cxb (kg κ) + k) :: st.map (vV (kg κ)) by rw [List.map_cons, List.map_cons, ref_adr (by omega)]; rfl]
  refine va_zast G.exec G.code G.hK hP (wsL_D _ _ _) hS k 1 hat (tysL_at _ (by decide)) (by rw [hi]; exact nI_in hj.1 hj.2) hd (fun H1 locs1 hP1 _ hS1 => ?_)
  rw [hx, hi, nI_clamp (by omega), wsL_set (h' := updh h k j (.int x)) hk.1 (arrset hs (by decide)) (fun i hi => updh_ne hi)] at hP1
  exact kk H1 locs1 ls hz hP1 hS1 hl
theorem cats (g : CX) (st : List Value) : (st.map (vV g)).map (fun v => v.category) = st.map (fun v => v.category) := by
  rw [List.map_map]
  exact List.map_congr_left (fun v _ => vV_cat g v)
/-! calls -/
theorem X_size {T : State} {locs : List Loc} {own : String} {b : ByteArray} {d : Nat} (G : Gc κ own b d) (Xs : Stand (kp κ) (cxl (kg κ)) (ke κ) (kR κ) (ks κ) (km κ) (ka κ) (kbel κ) (kme κ) (kc κ) T locs (n - k0 κ) (ss n - ss (k0 κ))) (h0 : k0 κ ≤ n) (hP : va_P (cxD (kg κ)) classes (wsL (kg κ) n h) T.heap) (hS : va_S (fr (kg κ)) (ks κ).heap T.heap locs) : T.heap.size = cxb (kg κ) + n := by
  have h1 := Xs.heapSize
  have h2 := hS.1
  rw [G.size] at h1 h2
  by_cases hn : n = k0 κ
  · omega
  · have h3 := (hP (n - 1) _ (wsL_at (by omega))).lt
    simp only at h3
    omega
theorem x_go {n' : Nat} {Post : Option Value → Hp → Prop} {a : Array Value} {H : Heap} {locs : List Loc} {ls : Array Slot} {st0 : List Value}
    (hr : va_Run (kp κ) (cxl (kg κ)) (ke κ) (kR κ) (ks κ) (km κ) (ka κ) (kbel κ) (kme κ) (kc κ) H locs (n - k0 κ) (ss n - ss (k0 κ)) (n' - n) (ss n' - ss n) (F0 (km κ) pc ls st0) (st.map (vV (kg κ))) (Qd (kg κ) n' Post a) (fr (kg κ)))
    (hS : va_S (fr (kg κ)) (ks κ).heap H locs) (hl : lv_has ls (kn κ) (lcl (kg κ) 0 L)) (h0 : k0 κ ≤ n) (h1 : n ≤ n') (kk : ∀ r h', Post r h' → X κ n' (pc + 3) L (r.toList ++ st) h') :
    W (kp κ) (cxl (kg κ)) (ke κ) (kR κ) (ks κ) (km κ) (ka κ) (kbel κ) (kme κ) (kc κ) H locs (n - k0 κ) (ss n - ss (k0 κ)) (kQ κ) (F0 (km κ) pc ls st0) := by
  intro T hT Xs
  obtain ⟨v, st₀, t, T', L2, e0, X', hL, e1, e2, ⟨r, h', hv, hp, hP1, hz, hk⟩, stp⟩ := hr T hT Xs
  have hv' : v = r.map (vV (kg κ)) := Outcome.returned.inj hv
  subst hv'
  rw [e0] at hz hk
  have a1 := ss_le h0
  have a2 := ss_le h1
  rw [show n - k0 κ + (n' - n) = n' - k0 κ by omega, show ss n - ss (k0 κ) + (ss n' - ss n) = ss n' - ss (k0 κ) by omega] at X'
  have hW := kk r h' hp T'.heap (locs ++ L2) ls (Nat.le_trans h0 h1) (by rw [e1]; exact hP1)
    ⟨Nat.le_trans hS.1 (by rw [e1]; exact hz), fun q q1 q2 => by rw [e1, hk q (Nat.lt_of_lt_of_le q1 hS.1) q2]; exact hS.2.1 q q1 q2, fun q hq => by
      rcases List.mem_append.mp hq with h | h
      · exact hS.2.2 q h
      · exact hL q h⟩ hl T' rfl X'
  obtain ⟨t2, c1, c2⟩ := hW
  refine ⟨t2, stp t2 ?_, c2⟩
  rw [List.map_append, show (r.toList).map (vV (kg κ)) = (r.map (vV (kg κ))).toList by cases r <;> rfl] at c1
  exact c1
theorem Held.blind {g : CX} {av : List Value} : FrameBlind (va_Pc av (Held g n h)) := fun a U gg mk hq => by
  obtain ⟨h1, h2, h3, h4, h5, h6, a1, a2, a3, a4, a5⟩ := hq
  exact ⟨h1, h2, h3, va_K.moved (u := U) (U := U.calling gg mk a) (Vm.Alike.refl U.vm) h4, VKS.moved (u := U) (U := U.calling gg mk a) (Vm.Alike.refl U.vm) h5, fun i hi => vk_R.same (u := U) rfl (h6 i hi),
    a1.moved (U := U.calling gg mk a) (Vm.Alike.refl U.vm), a2.moved (U := U.calling gg mk a) (Vm.Alike.refl U.vm), a3.moved (U := U.calling gg mk a) (Vm.Alike.refl U.vm), over_moved (a := #[]) (a' := #[]) (E := U.calling gg mk a) (Vm.Alike.refl U.vm) a4, fun C hC => va_Nw.same (U := U.calling gg mk a) rfl rfl (a5 C hC)⟩
theorem held_of {H : Heap} {locs : List Loc} {U : State} (G : Gc κ own b d) (hz : H.size = cxb (kg κ) + n) (hP : va_P (cxD (kg κ)) classes (wsL (kg κ) n h) H) (hS : va_S (fr (kg κ)) (ks κ).heap H locs) (hU : U.heap = H) (hW : (ks κ).WarmedH U.vm) : Held (kg κ) n h U := by
  subst hU
  exact ⟨hz, hP, va_K.moved hW.alike G.hK, (G.hE.kept (fun a q1 q2 => hS.2.1 a q1 q2)).moved hW.alike, fun i hi => (G.hR i hi).warm hW, G.hA.warm hW⟩
def LkB (own : String) (idx : Nat) (μ : MD) (na : Nat) : Prop :=
  Cond.code μ.1 μ.2.1 μ.2.2.1 μ.2.2.2 ∈ WS ∧ Cond.initialized μ.1.cls ∈ WS ∧ (μ.1.cls ≠ "java/lang/invoke/MethodHandle" ∧ μ.1.cls ≠ "java/lang/invoke/VarHandle") ∧ (parseMethodDescriptor μ.1.desc).map (fun d => d.parameters.length) = some na ∧ Cond.methodLink own idx μ.1 ∈ WS ∧ μ.2.2.1 ≤ 40
def LkV (own : String) (idx : Nat) (μ : MD) (na : Nat) : Prop := LkB own idx μ na ∧ Cond.instanceMethod μ.1 ∈ WS ∧ Cond.selects μ.1.cls μ.1 μ.1 ∈ WS
def LkS (own : String) (idx : Nat) (μ : MD) (na : Nat) : Prop := LkB own idx μ na ∧ Cond.static μ.1 ∈ WS
def LkI (own : String) (idx : Nat) (μ : MD) (na : Nat) : Prop := LkB own idx μ na ∧ μ.1.name = "<init>" ∧ μ.2.2.2 = none ∧ Cond.instanceMethod μ.1 ∈ WS
theorem lkn {ds : String} {na : Nat} (h : (parseMethodDescriptor ds).map (fun d => d.parameters.length) = some na) : ∀ sig, parseMethodDescriptor ds = some sig → na = sig.parameters.length := fun sig hs => by
  rw [hs] at h
  exact (Option.some.inj h).symm
theorem lk_pay {μ : MD} (G : Gc κ own b d) (hc : Cond.code μ.1 μ.2.1 μ.2.2.1 μ.2.2.2 ∈ WS) : ∀ w ∈ wsy μ, ∀ (a' : Array Value) (U : State), (ks κ).WarmedH U.vm → w.before a' U = true :=
  pay_in G.words (fun w hw => by
    rcases List.mem_cons.mp hw with rfl | hw
    · exact ⟨hc, ws_ok hc⟩
    · exact ⟨hw, ws_ok hw⟩)
theorem lk_B {idx na n n' d' : Nat} {μ : MD} (G : Gc κ own b d) (lk : LkB own idx μ na) (hd' : d' + 1 ≤ d) : CallB (kR κ) (ks κ) (ka κ) own idx μ.1 μ.2.1 μ.2.2.1 μ.2.2.2 (wsy μ) (rmd d' n n') (n' - n) (ss n' - ss n) na := by
  obtain ⟨h1, h2, h3, h4, h5, h6⟩ := lk
  have f1 := G.frames
  have f2 := G.locals
  exact ⟨rfl, rfl, Nat.le_trans hd' f1, by show 8 + (_ + 11) + 64 * d' ≤ _; omega, lk_pay G h1, List.mem_cons_self, G.words _ h1, G.words _ h2, h3, lkn h4, G.words _ h5⟩
theorem xrecv {k ci : Nat} {H : Heap} (G : Gc κ own b d) (hs : shp k = .inl ci) (hci : ci < 13) (hk : k < n) (hP : va_P (cxD (kg κ)) classes (wsL (kg κ) n h) H) : ∃ cell : Cell, H[cxb (kg κ) + k]? = some cell ∧ cell.vm.isStatics = false ∧ (ks κ).vm.findClass (gcl ci).1 = some cell.cls := by
  have hat := wsL_at (g := kg κ) (h := h) hk
  rw [ent_obj hs] at hat
  exact va_recv G.hK hP (cl_at hci) hat
theorem x_callV {idx na k ci n' d' : Nat} {μ : MD} {As : List Value} {Post : Option Value → Hp → Prop} (hM : Runs (kg κ) d' μ (.ref k :: As) n h n' Post) (G : Gc κ own b d) (hd : dc b pc q (.invokevirtual idx) 3) (lk : LkV own idx μ na) (hs : shp k = .inl ci) (hcn : ci < 13 ∧ (gcl ci).1 = μ.1.cls) (hk : k < n ∧ n ≤ 2000) (hd' : d' + 1 ≤ d) (hna : As.length = na) (hw : (st.map fun v => v.category).sum ≤ 8) (hx : n ≤ n' ∧ n' ≤ kx κ) (kk : ∀ r h', Post r h' → X κ n' q L (r.toList ++ st) h') : X κ n pc L (As.reverse ++ .ref k :: st) h := by
  obtain ⟨hd, rfl⟩ := hd
  intro H locs ls hz hP hS hl
  intro T hT Xs
  subst hT
  have hsz := X_size G Xs hz hP hS
  have g1 := G.cells
  have g2 := G.slots
  have a1 := ss_le hz
  have a2 := ss_le hx.1
  have a3 := ss_le hx.2
  obtain ⟨lk, hin, hse⟩ := lk
  rw [show (As.reverse ++ Value.ref k :: st).map (vV (kg κ)) = (As.map (vV (kg κ))).reverse ++ .ref (cxb (kg κ) + k) :: st.map (vV (kg κ)) by rw [List.map_append, ref_adr (by omega), List.map_reverse]]
  refine x_go (st := st) (va_runV (C := μ.1.cls) (As := As.map (vV (kg κ))) (Qc := Qd (kg κ) n' Post) (g := F0 (km κ) pc ls _) ⟨G.exec, G.code, G.maxL, G.owns, G.words⟩ hM ⟨lk_B G lk hd', G.words _ hin, G.words _ hse⟩
    ⟨Held.blind, by rw [← hcn.2]; exact xrecv G hs hcn.1 hk.1 hP, fun U hU hW => ⟨by rw [ref_adr (by omega)], held_of G hsz hP hS hU hW⟩⟩ rfl (by rw [List.length_map]; exact hna) hl.1 rfl (lv_room (by rw [cats]; exact hw)) hd ⟨by omega, by omega⟩) hS hl hz hx.1 kk T rfl Xs
theorem x_callS {idx na n' d' : Nat} {μ : MD} {As : List Value} {Post : Option Value → Hp → Prop} (hM : Runs (kg κ) d' μ As n h n' Post) (G : Gc κ own b d) (hd : dc b pc q (.invokestatic idx) 3) (lk : LkS own idx μ na) (hd' : d' + 1 ≤ d) (hna : As.length = na) (hw : (st.map fun v => v.category).sum ≤ 8) (hx : n ≤ n' ∧ n' ≤ kx κ) (kk : ∀ r h', Post r h' → X κ n' q L (r.toList ++ st) h') : X κ n pc L (As.reverse ++ st) h := by
  obtain ⟨hd, rfl⟩ := hd
  intro H locs ls hz hP hS hl
  intro T hT Xs
  subst hT
  have hsz := X_size G Xs hz hP hS
  have g1 := G.cells
  have g2 := G.slots
  have a1 := ss_le hz
  have a2 := ss_le hx.1
  have a3 := ss_le hx.2
  obtain ⟨lk, hst⟩ := lk
  rw [show (As.reverse ++ st).map (vV (kg κ)) = (As.map (vV (kg κ))).reverse ++ st.map (vV (kg κ)) by rw [List.map_append, List.map_reverse]]
  exact x_go (st := st) (va_runS (As := As.map (vV (kg κ))) (Qc := Qd (kg κ) n' Post) (g := F0 (km κ) pc ls _) ⟨G.exec, G.code, G.maxL, G.owns, G.words⟩ hM ⟨lk_B G lk hd', G.words _ hst⟩
    ⟨Held.blind, fun U hU hW => ⟨rfl, held_of G hsz hP hS hU hW⟩⟩ rfl (by rw [List.length_map]; exact hna) hl.1 rfl (lv_room (by rw [cats]; exact hw)) hd ⟨by omega, by omega⟩) hS hl hz hx.1 kk T rfl Xs
/-! returns, and a method out of its walk -/
def Ge (κ : KX) (μ : MD) (Post : Option Value → Hp → Prop) : Prop :=
  kQ κ = MQ (kbel κ) (Qd (kg κ) (kx κ) Post) (ka κ) (ks κ) (kx κ - k0 κ) (ss (kx κ) - ss (k0 κ)) (fr (kg κ)) ∧ (kme κ).sig.returnType = μ.2.2.2 ∧ (kme κ).locks = false ∧ (kme κ).name = μ.1.name
theorem x_iret {μ : MD} {ty : FieldType} {v : Int32} {Post : Option Value → Hp → Prop} (G : Gc κ own b d) (E : Ge κ μ Post) (hd : dc b pc q .ireturn 1) (hx : n = kx κ) (hr : μ.2.2.2 = some ty) (hn : narrow ty (.int v) = .int v) (hp : Post (some (.int v)) h) : X κ n pc L [.int v] h := by
  intro H locs ls hz hP hS hl
  subst hx
  rw [E.1]
  exact W.zret G.exec G.code (E.2.1.trans hr) hn (fun t ht _ => ⟨some (.int v), h, rfl, hp, by rw [ht]; exact hP, hS.F ht⟩) hS.2.2 hd.1 E.2.2.1
theorem x_vret {μ : MD} {Post : Option Value → Hp → Prop} (G : Gc κ own b d) (E : Ge κ μ Post) (hd : dc b pc q .return_ 1) (hx : n = kx κ) (hr : μ.2.2.2 = none) (hp : Post none h) : X κ n pc L [] h := by
  intro H locs ls hz hP hS hl
  subst hx
  rw [E.1]
  exact W.vret G.exec G.code (E.2.1.trans hr) (fun t ht _ => ⟨none, h, rfl, hp, by rw [ht]; exact hP, hS.F ht⟩) hS.2.2 hd.1 E.2.2.1
theorem x_aret {μ : MD} {nm : String} {r : Nat} {Post : Option Value → Hp → Prop} (G : Gc κ own b d) (E : Ge κ μ Post) (hd : dc b pc q .areturn 1) (hx : n = kx κ) (hr : μ.2.2.2 = some (.object nm)) (hp : Post (some (.ref r)) h) : X κ n pc L [.ref r] h := by
  intro H locs ls hz hP hS hl
  subst hx
  rw [E.1]
  exact W.aret G.exec G.code (E.2.1.trans hr) (Or.inl ⟨_, rfl⟩) (Or.inr ⟨_, rfl⟩) (fun t ht _ => ⟨some (.ref r), h, rfl, hp, by rw [ht]; exact hP, hS.F ht⟩) hS.2.2 hd.1 E.2.2.1
def lin : List Value → List (Option Value)
  | [] => []
  | v :: l => if v.category = 2 then some v :: none :: lin l else some v :: lin l
theorem lin_lcl (g : CX) (m : Nat) : ∀ (av : List Value) (j : Nat), lcl g j (lin av ++ List.replicate m none) = lv_args j (av.map (vV g))
  | [], j => by
    have : ∀ (m j : Nat), lcl g j (List.replicate m none) = [] := fun m => by
      induction m with
      | zero => intro j; rfl
      | succ m ih => intro j; exact ih (j + 1)
    exact this m j
  | v :: l, j => by
    show lcl g j ((if v.category = 2 then some v :: none :: lin l else some v :: lin l) ++ _) = (j, vV g v) :: lv_args (if (vV g v).category = 2 then j + 2 else j + 1) (l.map (vV g))
    rw [vV_cat]
    split
    · exact congrArg (List.cons (j, vV g v)) (lin_lcl g m l (j + 1 + 1))
    · exact congrArg (List.cons (j, vV g v)) (lin_lcl g m l (j + 1))
theorem lin_len (g : CX) : ∀ av : List Value, (lg_sl (av.map (vV g))).length = (lin av).length
  | [] => rfl
  | v :: l => by
    have ih := lin_len g l
    simp only [lg_sl, List.map_cons, List.flatMap_cons, List.length_append, vV_cat, lin] at ih ⊢
    split <;> simp [ih] <;> omega
theorem Runs.of {g : CX} {μ : MD} {av : List Value} {n' : Nat} {Post : Option Value → Hp → Prop} (m : Nat) (hy : plainName μ.1.cls = true) (hlen : (lin av).length + m = μ.2.2.1) (hn : n ≤ n')
    (body : ∀ κ : KX, kg κ = g → k0 κ = n → kx κ = n' → kn κ = μ.2.2.1 → Gc κ μ.1.cls μ.2.1 d → Ge κ μ Post → X κ n 0 (lin av ++ List.replicate m none) [] h) : Runs g d μ av n h n' Post := by
  refine Met.ofW (cc := μ.2.1) (maxL := μ.2.2.1) (ret := μ.2.2.2) hy rfl ?_
  intro p e s m0 args below meth c s₁ B hml hv
  obtain ⟨rfl, hsz, hP, hK, hE, hR, hA⟩ := hv
  have hts := atoms_spec (ws := wsy μ) B.pre
  have hL := lv_entry (av.map (vV g)) (n := μ.2.2.1) (by rw [lin_len]; omega)
  rw [lg_entry_eq]
  rw [← lin_lcl g m] at hL
  have hX := body ((p, e, (headSpec (wsy μ) (rmd d n n')).room, s, m0, (av.map (vV g)).toArray), (below, meth, c, MQ below (Qd g n' Post) (av.map (vV g)).toArray s (n' - n) (ss n' - ss n) (fr g)), (g, n, n', μ.2.2.1)) rfl rfl rfl rfl
    ⟨B.exec, B.bytes, hml, findClass_of_methodNamed B.named, fun w hw => hts w (List.mem_cons_of_mem _ hw), hK, hE, hR, hA, hsz, hn, Nat.le_refl _, Nat.le_refl _, Nat.le_refl _, Nat.le_refl _⟩
    ⟨rfl, B.returns, B.notSynchronized, (name_of_methodNamed B.named B.method).1⟩
  have := hX s.heap [] _ (Nat.le_refl _) hP va_S.rf hL
  exact W.cs (by show 0 = n - n; omega) (by show 0 = ss n - ss n; omega) this
end XH
