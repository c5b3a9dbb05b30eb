/-! making: a new object, new arrays, arrays of arrays, final fields, an object's own beginning -/
section XN
variable {κ : KX} {own : String} {b : ByteArray} {d : Nat} {n pc q : Nat} {L : List (Option Value)} {st : List Value} {h : Hp}
theorem P_push {g : CX} {H H1 : Heap} (hP : va_P (cxD g) classes (wsL g n h) H) (o1 : ∀ q : Nat, q < H.size → H1[q]? = H[q]?) (he : va_at (cxD g) classes (cxb g + n, entS g (shp n) (h n)) H1) : va_P (cxD g) classes (wsL g (n + 1) h) H1 := by
  rw [wsL_succ]
  refine (hP.kept (fun k x hx => o1 x.1 ((hP k x hx).lt))).app (fun k x hx => ?_)
  have hz : k < 1 := (List.getElem?_eq_some_iff.mp hx).1
  rw [show k = 0 by omega] at hx
  cases hx
  exact he
theorem room_succ {a b c z N R : Nat} (h0 : a ≤ b) (h : z = b + N) (h1 : z ≤ c) (hR : c - a ≤ R) : b - a + N ≤ R ∧ b - a + N = z - a := by omega
theorem ss_obj {n ci : Nat} (hs : shp n = .inl ci) (hci : ci < 13) : ss (n + 1) = ss n + (gcl ci).2.2 := by
  show ss n + ssz (shp n) = _
  rw [hs, ← cl_n ci hci]
  rfl
theorem ss_arr {n ty len : Nat} (hs : shp n = .inr (ty, len)) : ss (n + 1) = ss n + len := by
  show ss n + ssz (shp n) = _
  rw [hs]
  rfl
theorem cell_succ {a b c R : Nat} (h0 : a ≤ b) (h1 : b + 1 ≤ c) (hR : c - a ≤ R) : b - a + 1 ≤ R ∧ b - a + 1 = b + 1 - a := by omega
theorem S_push {A : Nat → Prop} {H0 H H1 : Heap} {locs : List Loc} (hS : va_S A H0 H locs) (z : H1.size = H.size + 1) (o1 : ∀ q : Nat, q < H.size → H1[q]? = H[q]?) : va_S A H0 H1 locs :=
  ⟨by rw [z]; exact Nat.le_succ_of_le hS.1, fun x h1 h2 => (o1 x (Nat.lt_of_lt_of_le h1 hS.1)).trans (hS.2.1 x h1 h2), hS.2.2⟩
set_option maxHeartbeats 300000 in
theorem x_new {idx ci : Nat} (G : Gc κ own b d) (hd : dc b pc q (.new idx) 3) (hci : ci < 13) (hs : shp n = .inl ci) (hl : Cond.classLink own idx (gcl ci).1 ∈ WS) (hi : Cond.instantiable (gcl ci).1 (gcl ci).2.2 ∈ WS) (hin : Cond.initialized (gcl ci).1 ∈ WS) (hx : n + 1 ≤ kx κ) (hn : n < 2000)
    (hf : ∀ j, j < (gcl ci).2.2 → vV (kg κ) (h n j) = defaultValue (clty ci j)) (kk : X κ (n + 1) q L (.ref n :: st) h) : X κ n pc L st h := by
  obtain ⟨hd, rfl⟩ := hd
  intro H locs ls hz hP hS hl0
  intro T hT Xs
  subst hT
  have hsz := X_size G Xs hz hP hS
  suffices key : W (kp κ) (cxl (kg κ)) (ke κ) (kR κ) (ks κ) (km κ) (ka κ) (kbel κ) (kme κ) (kc κ) T.heap locs (n - k0 κ) (ss n - ss (k0 κ)) (kQ κ) (F0 (km κ) pc ls (st.map (vV (kg κ)))) from key T rfl Xs
  refine W.newcK G.exec G.code G.owns (G.words _ hl) (G.words _ hi) (G.words _ hin) rfl hd (cell_succ hz hx G.cells).1 (room_succ (ss_le hz) (ss_obj hs hci) (ss_le hx) G.slots).1 (G.hK.1 ci _ (cl_at hci)).2.1 hsz (fun H1 kC hkC e1 z1 o1 => ?_)
  have hP1 : va_P (cxD (kg κ)) classes (wsL (kg κ) (n + 1) h) H1 := by
    refine P_push hP (fun q hq => o1 q (by rw [← hsz]; exact hq)) ?_
    rw [ent_obj hs]
    refine ⟨_, cl_at hci, (u_born (clty ci) G.words (cl_in hci) (G.hK.1 ci _ (cl_at hci)) hkC e1 (cl_ty ci hci)).to (fun j hj => ?_)⟩
    unfold vp_V
    rw [List.getD_eq_getElem?_getD, rngmap_at (by rw [cl_n ci hci]; exact hj)]
    exact (hf j hj).symm
  have hk := kk H1 locs ls (Nat.le_succ_of_le hz) hP1 (S_push hS (by rw [z1, hsz]) (fun q hq => o1 q (by rw [← hsz]; exact hq))) hl0
  rw [ref_adr hn] at hk
  exact W.cs (cell_succ hz hx G.cells).2 (room_succ (ss_le hz) (ss_obj hs hci) (ss_le hx) G.slots).2 hk
set_option maxHeartbeats 300000 in
theorem x_newa {aty : ArrayType} {ty len : Nat} {i : Int32} (G : Gc κ own b d) (hd : dc b pc q (.newarray aty) 2) (hty : newarray.typeOf aty = atys ty ∧ ty ≤ 1) (hs : shp n = .inr (ty, len)) (hc : Cond.arrayClass (atys ty) ∈ WS) (hi : i = nI len) (hlen : len < 4000) (hx : n + 1 ≤ kx κ) (hn : n < 2000)
    (hf : ∀ j, h n j = .int 0) (kk : X κ (n + 1) q L (.ref n :: st) h) : X κ n pc L (.int i :: st) h := by
  obtain ⟨hd, rfl⟩ := hd
  intro H locs ls hz hP hS hl0
  intro T hT Xs
  subst hT
  have hsz := X_size G Xs hz hP hS
  obtain ⟨hty, hty1⟩ := hty
  have hcb : componentBytes (newarray.typeOf aty) ≤ 4 := by
    rw [hty]
    rcases (show ty = 0 ∨ ty = 1 by omega) with rfl | rfl <;> decide
  suffices key : W (kp κ) (cxl (kg κ)) (ke κ) (kR κ) (ks κ) (km κ) (ka κ) (kbel κ) (kme κ) (kc κ) T.heap locs (n - k0 κ) (ss n - ss (k0 κ)) (kQ κ) (F0 (km κ) pc ls (.int i :: st.map (vV (kg κ)))) from key T rfl Xs
  refine va_newaK G.exec G.code (by rw [hty]; exact G.words _ hc) rfl hd rfl (by rw [hi]; exact Int32.not_lt.mpr (nI_pos' (by omega))) (by rw [hi]; exact nI_clamp (by omega)) (by have := Nat.mul_le_mul (Nat.le_of_lt hlen) hcb; omega) (cell_succ hz hx G.cells).1 (room_succ (ss_le hz) (ss_arr hs) (ss_le hx) G.slots).1 hsz (fun H1 cA e1 z1 o1 hAr hNm => ?_)
  have hP1 : va_P (cxD (kg κ)) classes (wsL (kg κ) (n + 1) h) H1 := by
    refine P_push hP (fun q hq => o1 q (by rw [← hsz]; exact hq)) ?_
    rw [ent_arr hs, arrE_i hty1]
    show H1[cxb (kg κ) + n]? = some (arrV _ len (fun j => .int (iv (h n j))))
    have hra := (G.hK.2 ty _ (tysL_at (kg κ) (by omega))).2
    have hcA : cA = cxT (kg κ) ty := by
      rw [hty] at hNm
      rcases (show ty = 0 ∨ ty = 1 by omega) with rfl | rfl
      · exact Option.some.inj (hNm.symm.trans hra)
      · exact Option.some.inj (hNm.symm.trans hra)
    have hdv : defaultValue (newarray.typeOf aty) = .int 0 := by
      rw [hty]
      rcases (show ty = 0 ∨ ty = 1 by omega) with rfl | rfl <;> rfl
    rw [e1, hcA, hdv]
    congr 1
    show arrV _ _ _ = arrV _ _ _
    congr 1
    funext j
    rw [hf j]
    rfl
  have hk := kk H1 locs ls (Nat.le_succ_of_le hz) hP1 (S_push hS (by rw [z1, hsz]) (fun q hq => o1 q (by rw [← hsz]; exact hq))) hl0
  rw [ref_adr hn] at hk
  exact W.cs (cell_succ hz hx G.cells).2 (room_succ (ss_le hz) (ss_arr hs) (ss_le hx) G.slots).2 hk
set_option maxHeartbeats 300000 in
theorem x_anew {idx ty len : Nat} {C : String} {i : Int32} (G : Gc κ own b d) (hd : dc b pc q (.anewarray idx) 3) (hty : atys ty = .object C ∧ 1 < ty ∧ ty < 6) (hs : shp n = .inr (ty, len)) (hl : Cond.classLink own idx C ∈ WS) (hao : va_AO C (ks κ)) (hi : i = nI len) (hlen : len < 4000) (hx : n + 1 ≤ kx κ) (hn : n < 2000)
    (hf : ∀ j, rv (kg κ) (h n j) = none) (kk : X κ (n + 1) q L (.ref n :: st) h) : X κ n pc L (.int i :: st) h := by
  obtain ⟨hd, rfl⟩ := hd
  intro H locs ls hz hP hS hl0
  intro T hT Xs
  subst hT
  have hsz := X_size G Xs hz hP hS
  obtain ⟨hty, hty1, hty2⟩ := hty
  have hcl : i.toNatClampNeg = len := by rw [hi]; exact nI_clamp (by omega)
  suffices key : W (kp κ) (cxl (kg κ)) (ke κ) (kR κ) (ks κ) (km κ) (ka κ) (kbel κ) (kme κ) (kc κ) T.heap locs (n - k0 κ) (ss n - ss (k0 κ)) (kQ κ) (F0 (km κ) pc ls (.int i :: st.map (vV (kg κ)))) from key T rfl Xs
  refine W.anew G.exec G.code G.owns (G.words _ hl) (va_AO.use hao) rfl hd rfl (by rw [hi]; exact Int32.not_lt.mpr (nI_pos' (by omega))) (by rw [hcl]; omega) (cell_succ hz hx G.cells).1 (by rw [hcl]; exact (room_succ (ss_le hz) (ss_arr hs) (ss_le hx) G.slots).1) (fun cA kA comp f1 f2 f3 f4 => ?_)
  rw [hcl]
  generalize hH1 : T.heap.push ({ cls := cA, slots := Array.replicate len .null, vm := .none } : Cell) = H1
  have z1 : H1.size = T.heap.size + 1 := by rw [← hH1, Array.size_push]
  have e1 : H1[T.heap.size]? = some (arrV cA len (fun _ => .null)) := by rw [← hH1, Array.getElem?_push_size, ← arrV_new]
  have o1 : ∀ q : Nat, q < T.heap.size → H1[q]? = T.heap[q]? := fun q hq => by rw [← hH1, Array.getElem?_push, if_neg (Nat.ne_of_lt hq)]
  have hP1 : va_P (cxD (kg κ)) classes (wsL (kg κ) (n + 1) h) H1 := by
    refine P_push hP o1 ?_
    rw [ent_arr hs, arrE_q (by omega)]
    show H1[cxb (kg κ) + n]? = some (arrV _ len (fun j => va_rf (rv (kg κ) (h n j))))
    have hra := (G.hK.2 ty _ (tysL_at (kg κ) (by omega))).2
    rw [show ((cxT (kg κ) ty, atys ty) : ClassId × FieldType).2 = .object C from hty] at hra
    obtain ⟨kA', comp', -, -, -, h4⟩ := hra
    have hcA : cA = cxT (kg κ) ty := Option.some.inj (f1.symm.trans h4)
    rw [← hsz, e1, hcA]
    congr 2
    funext j
    rw [hf j]
    rfl
  have hk := kk H1 locs ls (Nat.le_succ_of_le hz) hP1 (S_push hS z1 o1) hl0
  rw [ref_adr hn, ← hsz] at hk
  exact W.cs (cell_succ hz hx G.cells).2 (room_succ (ss_le hz) (ss_arr hs) (ss_le hx) G.slots).2 hk
theorem x_putF {idx ci j k : Nat} {v : Value} (G : Gc κ own b d) (hd : dc b pc q (.putfield idx) 3) (fl : FL own idx ci j) (hs : shp k = .inl ci) (hk : k < n ∧ n ≤ 2000) (hfin : ((gcl ci).2.1 j).2.2.2 = true) (hnm : (kme κ).name = "<init>") (hown : (gcl ci).1 = own) (hn : narrow (clty ci j) (vV (kg κ) v) = vV (kg κ) v) (hf : fits (clty ci j) (vV (kg κ) v) = true) (kk : X κ n q L st (updh h k j v)) : X κ n pc L (v :: .ref k :: st) h := by
  obtain ⟨hd, rfl⟩ := hd
  obtain ⟨hci, hj, hlk⟩ := fl
  intro H locs ls hz hP hS hl
  have hat := wsL_at (g := kg κ) (h := h) hk.1
  rw [ent_obj hs] at hat
  rw [show (v :: Value.ref k :: st).map (vV (kg κ)) = vV (kg κ) v :: .ref (cxb (kg κ) + k) :: st.map (vV (kg κ)) by rw [List.map_cons, ref_adr (by omega)]]
  refine va_putF (C := (gcl ci).1) (T := (gcl ci).2.1) (N := (gcl ci).2.2) G.exec G.code G.words (cl_in hci) (clty ci) (cl_ty ci hci) (cl_nm ci hci) G.owns G.hK hP (wsL_D _ _ _) hS k hat (cl_at hci) j hj (G.words _ hlk) (fun x hx => by rw [cl_own ci hci j hj] at hx; exact hx) hfin hnm (by rw [cl_own ci hci j hj]; exact hown) (cl_ty ci hci j hj) hn hf (by rw [List.length_map, List.length_range, cl_n ci hci]; exact hj) hd (fun H1 locs1 hP1 _ hS1 => ?_)
  rw [wsL_set (h' := updh h k j v) hk.1 ?_ (fun i hi => updh_ne hi)] at hP1
  · exact kk H1 locs1 ls hz hP1 hS1 hl
  · rw [ent_obj hs]
    rw [rngmap_set (f' := fun i => vV (kg κ) (updh h k j v k i)) (by simp [updh]) (fun i hi => by simp [updh, hi])]
theorem refset {g : CX} {k j len ty r : Nat} {h : Hp} (hs : shp k = .inr (ty, len)) (ht : ¬ ty ≤ 1) : (.inl (cxT g ty, len, .inr (.inr (.inr (.inr (va_up (fun j => rv g (h k j)) j (some (adr g r))))))) : va_E) = entS g (shp k) (updh h k j (.ref r) k) := by
  rw [ent_arr hs, arrE_q ht]
  congr 7
  funext i
  by_cases hi : i = j
  · subst hi
    simp [va_up, updh, rv]
  · simp [va_up, updh, hi]
theorem x_aast {k ty len r ci : Nat} {E : String} {i : Int32} (G : Gc κ own b d) (hd : dc b pc q .aastore 1) (hs : shp k = .inr (ty, len)) (hty : atys ty = .object E ∧ 1 < ty ∧ ty < 6) (hk : k < n ∧ n ≤ 2000) (hr : r < n ∧ shp r = .inl ci ∧ ci < 13) (hca : (gcl ci).1 = E ∨ va_Nw (.castable (gcl ci).1 E) (ks κ)) (j : Nat) (hi : i = nI j) (hj : j < len ∧ len < 2 ^ 31)
    (kk : X κ n q L st (updh h k j (.ref r))) : X κ n pc L (.ref r :: .int i :: .ref k :: st) h := by
  obtain ⟨hd, rfl⟩ := hd
  intro H locs ls hz hP hS hl
  have hat := wsL_at (g := kg κ) (h := h) hk.1
  rw [ent_arr hs, arrE_q (by omega)] at hat
  have hatr := wsL_at (g := kg κ) (h := h) hr.1
  rw [ent_obj hr.2.1] at hatr
  rw [show (Value.ref r :: Value.int i :: Value.ref k :: st).map (vV (kg κ)) = .ref (cxb (kg κ) + r) :: .int i :: .ref (cxb (kg κ) + k) :: st.map (vV (kg κ)) by rw [ref_adr (by omega), List.map_cons, ref_adr (by omega)]; rfl]
  have hty3 : (tysL (kg κ))[ty]? = some (cxT (kg κ) ty, .object E) := by rw [← hty.1]; exact tysL_at _ hty.2.2
  have hfin : ∀ (H1 : Heap) (locs1 : List Loc), va_P (cxD (kg κ)) classes ((wsL (kg κ) n h).set k (cxb (kg κ) + k, .inl (cxT (kg κ) ty, len, .inr (.inr (.inr (.inr (va_up (fun j => rv (kg κ) (h k j)) i.toNatClampNeg (some (cxb (kg κ) + r))))))))) H1 → va_S (fr (kg κ)) (ks κ).heap H1 locs1 →
      W (kp κ) (cxl (kg κ)) (ke κ) (kR κ) (ks κ) (km κ) (ka κ) (kbel κ) (kme κ) (kc κ) H1 locs1 (n - k0 κ) (ss n - ss (k0 κ)) (kQ κ) (F0 (km κ) (pc + 1) ls (st.map (vV (kg κ)))) := fun H1 locs1 hP1 hS1 => by
    rw [hi, nI_clamp (by omega), ← adr_lt (g := kg κ) (k := r) (by omega), wsL_set (h' := updh h k j (.ref r)) hk.1 (refset hs (by omega)) (fun i hi => updh_ne hi)] at hP1
    exact kk H1 locs1 ls hz hP1 hS1 hl
  rcases hca with hca | hca
  · refine va_astq (r := gcl ci) G.exec G.code G.hK hP (wsL_D _ _ _) hS k ty r ci hat (by rw [hca]; exact hty3) hatr (cl_at hr.2.2) (by rw [hi]; exact nI_in hj.1 hj.2) hd (fun H1 locs1 hP1 _ hS1 => hfin H1 locs1 hP1 hS1)
  · refine va_astqO (r := gcl ci) G.exec G.code G.hK hP (wsL_D _ _ _) hS k ty r ci hat hty3 hca hatr (cl_at hr.2.2) (by rw [hi]; exact nI_in hj.1 hj.2) hd (fun H1 locs1 hP1 _ hS1 => hfin H1 locs1 hP1 hS1)
theorem x_callI {idx na k n' d' : Nat} {μ : MD} {As : List Value} {Post : Option Value → Hp → Prop} (hM : Runs (kg κ) d' μ (.ref k :: As) n h n' Post) (G : Gc κ own b d) (hd : dc b pc q (.invokespecial idx) 3) (lk : LkI own idx μ na) (hk : k < n ∧ n ≤ 2000) (hd' : d' + 1 ≤ d) (hna : As.length = na) (hw : (st.map fun v => v.category).sum ≤ 8) (hx : n ≤ n' ∧ n' ≤ kx κ) (kk : ∀ r h', Post r h' → X κ n' q L (r.toList ++ st) h') : X κ n pc L (As.reverse ++ .ref k :: st) h := by
  obtain ⟨hd, rfl⟩ := hd
  intro H locs ls hz hP hS hl
  intro T hT Xs
  subst hT
  have hsz := X_size G Xs hz hP hS
  have g1 := G.cells
  have g2 := G.slots
  have a1 := ss_le hz
  have a2 := ss_le hx.1
  have a3 := ss_le hx.2
  obtain ⟨lk, hnm, hret, hin⟩ := lk
  have hB := lk_B (n := n) (n' := n') (d' := d') G lk hd'
  rw [show (As.reverse ++ Value.ref k :: st).map (vV (kg κ)) = (As.map (vV (kg κ))).reverse ++ .ref (cxb (kg κ) + k) :: st.map (vV (kg κ)) by rw [List.map_append, ref_adr (by omega), List.map_reverse]]
  refine x_go (st := st) (va_runI (As := As.map (vV (kg κ))) (Qc := Qd (kg κ) n' Post) (g := F0 (km κ) pc ls _) ⟨G.exec, G.code, G.maxL, G.owns, G.words⟩ hM ⟨by rw [hret] at hB; exact hB, hnm, G.words _ hin⟩
    ⟨Held.blind, fun U hU hW => ⟨by rw [ref_adr (by omega)], held_of G hsz hP hS hU hW⟩⟩ rfl (by rw [List.length_map]; exact hna) hl.1 rfl (lv_room (by rw [cats]; exact hw)) hd ⟨by omega, by omega⟩) hS hl hz hx.1 kk T rfl Xs
theorem x_obj {idx k : Nat} (G : Gc κ own b d) (hd : dc b pc q (.invokespecial idx) 3) (hl : Cond.methodLink own idx Lib.objectInit ∈ WS) (hin : Cond.instanceMethod Lib.objectInit ∈ WS) (hc : Cond.code Lib.objectInit ⟨#[0xb1]⟩ 1 none ∈ WS) (hd' : 1 ≤ d) (hw : (st.map fun v => v.category).sum ≤ 8) (hk : k < 2000) (kk : X κ n q L st h) : X κ n pc L (.ref k :: st) h := by
  obtain ⟨hd, rfl⟩ := hd
  intro H locs ls hz hP hS hl0
  have f1 := G.frames
  have f2 := G.locals
  rw [ref_adr hk]
  have hr := lv_room (m := km κ) (pc := pc) (ls := ls) (rest := Value.ref (cxb (kg κ) + k) :: st.map (vV (kg κ))) (st := st.map (vV (kg κ))) (by rw [cats]; exact hw)
  exact W.objInit G.exec G.code G.owns (G.words _ hl) (G.words _ hin) (G.words _ hc) rfl (hl0.1.trans G.maxL.symm) rfl hd (by omega) (by omega) (kk H locs ls hz hP hS hl0)
end XN
