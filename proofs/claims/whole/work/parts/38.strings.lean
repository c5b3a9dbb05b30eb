/-! TEXTS OF THE CLASS TAPE: the six String constants (numbers 2000 + i), their bytes (2100 + i), the JDK's methods over them -/
abbrev sL (i : Nat) : Nat := sLen.getD i 0
abbrev sB (i j : Nat) : Int32 := (sByt.getD i []).getD j 0
theorem sL_le : ∀ i, i < 6 → sL i ≤ 4 := by decide +kernel
theorem adr_t {g : CX} {i : Nat} (h : i < 6) : adr g (2000 + i) = cxK g i := by
  unfold adr
  rw [if_neg (by omega), if_pos (by omega), show 2000 + i - 2000 = i by omega]
theorem adr_b {g : CX} {i : Nat} (h : i < 6) : adr g (2100 + i) = cxV g i := by
  unfold adr
  rw [if_neg (by omega), if_neg (by omega), show 2100 + i - 2100 = i by omega]
/-- an answer that is known, and what holds of the world then -/
def PN (v : Int32) (P : Sg → Prop) : Option Value → Sg → Prop := fun r σ' => r = some (.int v) ∧ P σ'
section XS
variable {κ : KX} {own : String} {b : ByteArray} {d : Nat}
variable {n pc q : Nat} {L : List (Option Value)} {st : List Value} {h : Hp} {σ : Sg}
theorem x_i2b {x : Int32} (G : Gc κ own b d) (hd : dc b pc q .i2b 1) (kk : X κ n q L (.int x.toInt8.toInt32 :: st) h) : X κ n pc L (.int x :: st) h := by
  obtain ⟨hd, rfl⟩ := hd
  intro H locs ls hz hP hS hl
  exact lv_i2b G.exec G.code hd rfl (kk H locs ls hz hP hS hl)
theorem x_stcode {idx i : Nat} (G : Gc κ own b d) (hd : dc b pc q (.getfield idx) 3) (hlk : Cond.fieldLink own idx "java/lang/String" "coder" "B" ∈ WS) (hi : i < 6) (kk : X κ n q L (.int 0 :: st) h) : X κ n pc L (.ref (2000 + i) :: st) h := by
  obtain ⟨hd, rfl⟩ := hd
  intro H locs ls hz hP hS hl
  rw [show (Value.ref (2000 + i) :: st).map (vV (kg κ)) = .ref (cxK (kg κ) i) :: st.map (vV (kg κ)) by rw [← adr_t (g := kg κ) hi]; rfl]
  exact vk_getf G.exec G.code (G.hE.1.1 i hi).2.1 hS G.owns (G.words _ hlk) (fun x hx => hx) hd (kk H locs ls hz hP hS hl)
theorem x_stval {idx i : Nat} (G : Gc κ own b d) (hd : dc b pc q (.getfield idx) 3) (hlk : Cond.fieldLink own idx "java/lang/String" "value" "[B" ∈ WS) (hi : i < 6) (kk : X κ n q L (.ref (2100 + i) :: st) h) : X κ n pc L (.ref (2000 + i) :: st) h := by
  obtain ⟨hd, rfl⟩ := hd
  intro H locs ls hz hP hS hl
  have k2 := kk H locs ls hz hP hS hl
  rw [show (Value.ref (2100 + i) :: st).map (vV (kg κ)) = .ref (cxV (kg κ) i) :: st.map (vV (kg κ)) by rw [← adr_b (g := kg κ) hi]; rfl] at k2
  rw [show (Value.ref (2000 + i) :: st).map (vV (kg κ)) = .ref (cxK (kg κ) i) :: st.map (vV (kg κ)) by rw [← adr_t (g := kg κ) hi]; rfl]
  exact vk_getf G.exec G.code (G.hE.1.1 i hi).2.2.1 hS G.owns (G.words _ hlk) (fun x hx => hx) hd k2
theorem x_stlen {i : Nat} {v : Int32} (G : Gc κ own b d) (hd : dc b pc q .arraylength 1) (hi : i < 6) (hv : Int32.ofNat (sL i) = v) (kk : X κ n q L (.int v :: st) h) : X κ n pc L (.ref (2100 + i) :: st) h := by
  obtain ⟨hd, rfl⟩ := hd
  intro H locs ls hz hP hS hl
  rw [show (Value.ref (2100 + i) :: st).map (vV (kg κ)) = .ref (cxV (kg κ) i) :: st.map (vV (kg κ)) by rw [← adr_b (g := kg κ) hi]; rfl]
  exact va_tlen G.exec G.code (G.hE.1.1 i hi).2.2.2 hS hv hd (kk H locs ls hz hP hS hl)
theorem x_stbyt {i j : Nat} {x : Int32} (G : Gc κ own b d) (hd : dc b pc q .baload 1) (hi : i < 6) (hx : x = nI j) (hj : j < sL i) (kk : X κ n q L (.int (sB i j) :: st) h) : X κ n pc L (.int x :: .ref (2100 + i) :: st) h := by
  obtain ⟨hd, rfl⟩ := hd
  subst hx
  intro H locs ls hz hP hS hl
  have h4 := sL_le i hi
  rw [show (Value.int (nI j) :: Value.ref (2100 + i) :: st).map (vV (kg κ)) = .int (nI j) :: .ref (cxV (kg κ) i) :: st.map (vV (kg κ)) by rw [← adr_b (g := kg κ) hi]; rfl]
  exact va_tb G.exec G.code (G.hE.1.1 i hi).2.2.2 hS (nI_in hj (Nat.lt_of_le_of_lt h4 (by decide))) (v := .int (sB i j)) (by rw [nI_clamp (by omega)]) hd (kk H locs ls hz hP hS hl)
theorem x_compact {idx : Nat} (G : Gc κ own b d) (hd : dc b pc q (.getstatic idx) 3) (hlk : Cond.fieldLink own idx "java/lang/String" "COMPACT_STRINGS" "Z" ∈ WS) (kk : X κ n q L (.int 1 :: st) h) : X κ n pc L st h := by
  obtain ⟨hd, rfl⟩ := hd
  intro H locs ls hz hP hS hl
  exact va_gets G.exec G.code G.hE.2.1 hS G.owns (G.words _ hlk) (fun x hx => hx) hd (kk H locs ls hz hP hS hl)
theorem x_format {idx : Nat} (G : Gc κ own b d) (hd : dc b pc q (.getstatic idx) 3) (hlk : Cond.fieldLink own idx "jdk/internal/util/Preconditions" "SIOOBE_FORMATTER" "Ljava/util/function/BiFunction;" ∈ WS) (kk : ∀ v : Value, (v = .null ∨ ∃ k, v = .ref k) → X κ n q L (v :: st) h) : X κ n pc L st h := by
  obtain ⟨hd, rfl⟩ := hd
  intro H locs ls hz hP hS hl
  obtain ⟨v, hv, hvr⟩ := G.hE.2.2
  exact va_gets G.exec G.code hv hS G.owns (G.words _ hlk) (fun x hx => hx) hd (kk v hvr H locs ls hz hP hS hl)
theorem x_ldcT {idx i : Nat} (G : Gc κ "NoonFields$Tape" b d) (hd : dc b pc q (.ldc idx) 2) (hi : i < 6) (hx : sIdx.getD i 0 = idx) (kk : X κ n q L (.ref (2000 + i) :: st) h) : X κ n pc L st h := by
  obtain ⟨hd, rfl⟩ := hd
  intro H locs ls hz hP hS hl
  have k2 := kk H locs ls hz hP hS hl
  rw [show (Value.ref (2000 + i) :: st).map (vV (kg κ)) = .ref (cxK (kg κ) i) :: st.map (vV (kg κ)) by rw [← adr_t (g := kg κ) hi]; rfl] at k2
  exact va_ldcS G.exec G.code G.owns (by have := G.hR i hi; rw [hx] at this; exact this) hd k2
theorem x_callT {idx na i n' d' : Nat} {μ : MD} {As : List Value} {Post : Option Value → Hp → Prop} (hM : Runs (kg κ) d' μ (.ref (2000 + i) :: As) n h n' Post) (G : Gc κ own b d) (hd : dc b pc q (.invokevirtual idx) 3) (lk : LkV own idx μ na) (hi : i < 6) (hcn : μ.1.cls = "java/lang/String") (hd' : d' + 1 ≤ d) (hna : As.length = na) (hw : (st.map fun v => v.category).sum ≤ 8) (hx : n ≤ n' ∧ n' ≤ kx κ) (kk : ∀ r h', Post r h' → X κ n' q L (r.toList ++ st) h') : X κ n pc L (As.reverse ++ .ref (2000 + i) :: st) h := by
  obtain ⟨hd, rfl⟩ := hd
  intro H locs ls hz hP hS hl
  intro T hT Xs
  subst hT
  have hsz := X_size G Xs hz hP hS
  have g1 := G.cells
  have g2 := G.slots
  have a1 := ss_le hz
  have a2 := ss_le hx.1
  have a3 := ss_le hx.2
  obtain ⟨lk, hin, hse⟩ := lk
  rw [show (As.reverse ++ Value.ref (2000 + i) :: st).map (vV (kg κ)) = (As.map (vV (kg κ))).reverse ++ .ref (cxK (kg κ) i) :: st.map (vV (kg κ)) by rw [List.map_append, List.map_reverse, ← adr_t (g := kg κ) hi]; rfl]
  refine x_go (st := st) (va_runV (C := μ.1.cls) (As := As.map (vV (kg κ))) (Qc := Qd (kg κ) n' Post) (g := F0 (km κ) pc ls _) ⟨G.exec, G.code, G.maxL, G.owns, G.words⟩ hM ⟨lk_B G lk hd', G.words _ hin, G.words _ hse⟩
    ⟨Held.blind, by rw [hcn]; exact vk_recv G.hE.1 hi hS, fun U hU hW => ⟨by rw [← adr_t (g := kg κ) hi]; rfl, held_of G hsz hP hS hU hW⟩⟩ rfl (by rw [List.length_map]; exact hna) hl.1 rfl (lv_room (by rw [cats]; exact hw)) hd ⟨by omega, by omega⟩) hS hl hz hx.1 kk T rfl Xs
theorem m_callT_pi {idx na i d' : Nat} {μ : MD} {As : List Value} {v : Int32} {σ1 : Sg} (hM : RunM (kg κ) d' μ (.ref (2000 + i) :: As) σ (PI v σ1)) (G : Gc κ own b d) (hd : dc b pc q (.invokevirtual idx) 3) (lk : LkV own idx μ na) (hi : i < 6) (hcn : μ.1.cls = "java/lang/String") (hd' : d' + 1 ≤ d) (hna : As.length = na) (hw : (st.map fun v => v.category).sum ≤ 8) (hx : kx κ = NC) (kk : X κ NC q L (.int v :: st) (hv σ1)) : X κ NC pc L (As.reverse ++ .ref (2000 + i) :: st) (hv σ) :=
  x_callT hM G hd lk hi hcn hd' hna hw ⟨Nat.le_refl _, by rw [hx]; exact Nat.le_refl _⟩ (fun r h' ⟨σ', e, e1, e2⟩ => by subst e1; subst e2; rw [e]; exact kk)
theorem m_callV_pn {idx na k ci d' : Nat} {μ : MD} {As : List Value} {v : Int32} {P : Sg → Prop} (hM : RunM (kg κ) d' μ (.ref k :: As) σ (PN v P)) (G : Gc κ own b d) (hd : dc b pc q (.invokevirtual idx) 3) (lk : LkV own idx μ na) (hs : shp k = .inl ci) (hcn : ci < 13 ∧ (gcl ci).1 = μ.1.cls) (hk : k < 135) (hd' : d' + 1 ≤ d) (hna : As.length = na) (hw : (st.map fun v => v.category).sum ≤ 8) (hx : kx κ = NC) (kk : ∀ σ', P σ' → X κ NC q L (.int v :: st) (hv σ')) : X κ NC pc L (As.reverse ++ .ref k :: st) (hv σ) :=
  m_callV hM G hd lk hs hcn hk hd' hna hw hx (fun r σ' ⟨e1, e2⟩ => by subst e1; exact kk σ' e2)
theorem m_callS_pn {idx na d' : Nat} {μ : MD} {As : List Value} {v : Int32} {P : Sg → Prop} (hM : RunM (kg κ) d' μ As σ (PN v P)) (G : Gc κ own b d) (hd : dc b pc q (.invokestatic idx) 3) (lk : LkS own idx μ na) (hd' : d' + 1 ≤ d) (hna : As.length = na) (hw : (st.map fun v => v.category).sum ≤ 8) (hx : kx κ = NC) (kk : ∀ σ', P σ' → X κ NC q L (.int v :: st) (hv σ')) : X κ NC pc L (As.reverse ++ st) (hv σ) :=
  m_callS hM G hd lk hd' hna hw hx (fun r σ' ⟨e1, e2⟩ => by subst e1; exact kk σ' e2)
theorem m_callS_pv {idx na d' : Nat} {μ : MD} {As : List Value} {P : Sg → Prop} (hM : RunM (kg κ) d' μ As σ (PV P)) (G : Gc κ own b d) (hd : dc b pc q (.invokestatic idx) 3) (lk : LkS own idx μ na) (hd' : d' + 1 ≤ d) (hna : As.length = na) (hw : (st.map fun v => v.category).sum ≤ 8) (hx : kx κ = NC) (kk : ∀ σ', P σ' → X κ NC q L st (hv σ')) : X κ NC pc L (As.reverse ++ st) (hv σ) :=
  m_callS hM G hd lk hd' hna hw hx (fun r σ' ⟨e1, e2⟩ => by subst e1; exact kk σ' e2)
end XS
/-- the first place from k on, of m, where the text i has the byte c; -1 -/
def txF (i c : Nat) : Nat → Nat → Int32
  | _, 0 => -1
  | k, m + 1 => if sB i k = nI c then nI k else txF i c (k + 1) m
def Js_length : MD := (⟨"java/lang/String", "length", "()I"⟩, prog_18_method_54_code, 1, (some FieldType.int))
theorem d_Js_length_0 : dc Js_length.2.1 0 1 (.aload_n 0) 1 := ⟨by decide +kernel, rfl⟩
theorem d_Js_length_1 : dc Js_length.2.1 1 4 (.getfield 9) 3 := ⟨by decide +kernel, rfl⟩
theorem d_Js_length_4 : dc Js_length.2.1 4 5 .arraylength 1 := ⟨by decide +kernel, rfl⟩
theorem d_Js_length_5 : dc Js_length.2.1 5 6 (.aload_n 0) 1 := ⟨by decide +kernel, rfl⟩
theorem d_Js_length_6 : dc Js_length.2.1 6 9 (.invokevirtual 335) 3 := ⟨by decide +kernel, rfl⟩
theorem d_Js_length_9 : dc Js_length.2.1 9 10 .ishr 1 := ⟨by decide +kernel, rfl⟩
theorem d_Js_length_10 : dc Js_length.2.1 10 11 .ireturn 1 := ⟨by decide +kernel, rfl⟩
def Js_coder : MD := (⟨"java/lang/String", "coder", "()B"⟩, prog_18_method_152_code, 1, (some FieldType.byte))
theorem d_Js_coder_0 : dc Js_coder.2.1 0 3 (.getstatic 38) 3 := ⟨by decide +kernel, rfl⟩
theorem d_Js_coder_3 : db Js_coder.2.1 3 6 13 (.ifCond .eq 10) 3 (10) := ⟨by decide +kernel, rfl, rfl⟩
theorem d_Js_coder_6 : dc Js_coder.2.1 6 7 (.aload_n 0) 1 := ⟨by decide +kernel, rfl⟩
theorem d_Js_coder_7 : dc Js_coder.2.1 7 10 (.getfield 15) 3 := ⟨by decide +kernel, rfl⟩
theorem d_Js_coder_10 : db Js_coder.2.1 10 13 14 (.goto 4) 3 (4) := ⟨by decide +kernel, rfl, rfl⟩
theorem d_Js_coder_13 : dc Js_coder.2.1 13 14 (.iconst 1) 1 := ⟨by decide +kernel, rfl⟩
theorem d_Js_coder_14 : dc Js_coder.2.1 14 15 .ireturn 1 := ⟨by decide +kernel, rfl⟩
def Js_charAt : MD := (⟨"java/lang/String", "charAt", "(I)C"⟩, prog_18_method_56_code, 2, (some FieldType.char))
theorem d_Js_charAt_0 : dc Js_charAt.2.1 0 1 (.aload_n 0) 1 := ⟨by decide +kernel, rfl⟩
theorem d_Js_charAt_1 : dc Js_charAt.2.1 1 4 (.invokevirtual 492) 3 := ⟨by decide +kernel, rfl⟩
theorem d_Js_charAt_4 : db Js_charAt.2.1 4 7 16 (.ifCond .eq 12) 3 (12) := ⟨by decide +kernel, rfl, rfl⟩
theorem d_Js_charAt_7 : dc Js_charAt.2.1 7 8 (.aload_n 0) 1 := ⟨by decide +kernel, rfl⟩
theorem d_Js_charAt_8 : dc Js_charAt.2.1 8 11 (.getfield 9) 3 := ⟨by decide +kernel, rfl⟩
theorem d_Js_charAt_11 : dc Js_charAt.2.1 11 12 (.iload_n 1) 1 := ⟨by decide +kernel, rfl⟩
theorem d_Js_charAt_12 : dc Js_charAt.2.1 12 15 (.invokestatic 495) 3 := ⟨by decide +kernel, rfl⟩
theorem d_Js_charAt_15 : dc Js_charAt.2.1 15 16 .ireturn 1 := ⟨by decide +kernel, rfl⟩
theorem d_Js_charAt_16 : dc Js_charAt.2.1 16 17 (.aload_n 0) 1 := ⟨by decide +kernel, rfl⟩
theorem d_Js_charAt_17 : dc Js_charAt.2.1 17 20 (.getfield 9) 3 := ⟨by decide +kernel, rfl⟩
theorem d_Js_charAt_20 : dc Js_charAt.2.1 20 21 (.iload_n 1) 1 := ⟨by decide +kernel, rfl⟩
theorem d_Js_charAt_21 : dc Js_charAt.2.1 21 24 (.invokestatic 498) 3 := ⟨by decide +kernel, rfl⟩
theorem d_Js_charAt_24 : dc Js_charAt.2.1 24 25 .ireturn 1 := ⟨by decide +kernel, rfl⟩
def Js_isLatin1 : MD := (⟨"java/lang/String", "isLatin1", "()Z"⟩, prog_18_method_154_code, 1, (some FieldType.boolean))
theorem d_Js_isLatin1_0 : dc Js_isLatin1.2.1 0 3 (.getstatic 38) 3 := ⟨by decide +kernel, rfl⟩
theorem d_Js_isLatin1_3 : db Js_isLatin1.2.1 3 6 17 (.ifCond .eq 14) 3 (14) := ⟨by decide +kernel, rfl, rfl⟩
theorem d_Js_isLatin1_6 : dc Js_isLatin1.2.1 6 7 (.aload_n 0) 1 := ⟨by decide +kernel, rfl⟩
theorem d_Js_isLatin1_7 : dc Js_isLatin1.2.1 7 10 (.getfield 15) 3 := ⟨by decide +kernel, rfl⟩
theorem d_Js_isLatin1_10 : db Js_isLatin1.2.1 10 13 17 (.ifCond .ne 7) 3 (7) := ⟨by decide +kernel, rfl, rfl⟩
theorem d_Js_isLatin1_13 : dc Js_isLatin1.2.1 13 14 (.iconst 1) 1 := ⟨by decide +kernel, rfl⟩
theorem d_Js_isLatin1_14 : db Js_isLatin1.2.1 14 17 18 (.goto 4) 3 (4) := ⟨by decide +kernel, rfl, rfl⟩
theorem d_Js_isLatin1_17 : dc Js_isLatin1.2.1 17 18 (.iconst 0) 1 := ⟨by decide +kernel, rfl⟩
theorem d_Js_isLatin1_18 : dc Js_isLatin1.2.1 18 19 .ireturn 1 := ⟨by decide +kernel, rfl⟩
def Jl_charAt : MD := (⟨"java/lang/StringLatin1", "charAt", "([BI)C"⟩, prog_19_method_2_code, 2, (some FieldType.char))
theorem d_Jl_charAt_0 : dc Jl_charAt.2.1 0 1 (.iload_n 1) 1 := ⟨by decide +kernel, rfl⟩
theorem d_Jl_charAt_1 : dc Jl_charAt.2.1 1 2 (.aload_n 0) 1 := ⟨by decide +kernel, rfl⟩
theorem d_Jl_charAt_2 : dc Jl_charAt.2.1 2 3 .arraylength 1 := ⟨by decide +kernel, rfl⟩
theorem d_Jl_charAt_3 : dc Jl_charAt.2.1 3 6 (.invokestatic 9) 3 := ⟨by decide +kernel, rfl⟩
theorem d_Jl_charAt_6 : dc Jl_charAt.2.1 6 7 (.aload_n 0) 1 := ⟨by decide +kernel, rfl⟩
theorem d_Jl_charAt_7 : dc Jl_charAt.2.1 7 8 (.iload_n 1) 1 := ⟨by decide +kernel, rfl⟩
theorem d_Jl_charAt_8 : dc Jl_charAt.2.1 8 9 .baload 1 := ⟨by decide +kernel, rfl⟩
theorem d_Jl_charAt_9 : dc Jl_charAt.2.1 9 12 (.sipush 255) 3 := ⟨by decide +kernel, rfl⟩
theorem d_Jl_charAt_12 : dc Jl_charAt.2.1 12 13 .iand 1 := ⟨by decide +kernel, rfl⟩
theorem d_Jl_charAt_13 : dc Jl_charAt.2.1 13 14 .i2c 1 := ⟨by decide +kernel, rfl⟩
theorem d_Jl_charAt_14 : dc Jl_charAt.2.1 14 15 .ireturn 1 := ⟨by decide +kernel, rfl⟩
def Js_checkIndex : MD := (⟨"java/lang/String", "checkIndex", "(II)V"⟩, prog_18_method_155_code, 2, none)
theorem d_Js_checkIndex_0 : dc Js_checkIndex.2.1 0 1 (.iload_n 0) 1 := ⟨by decide +kernel, rfl⟩
theorem d_Js_checkIndex_1 : dc Js_checkIndex.2.1 1 2 (.iload_n 1) 1 := ⟨by decide +kernel, rfl⟩
theorem d_Js_checkIndex_2 : dc Js_checkIndex.2.1 2 5 (.getstatic 1053) 3 := ⟨by decide +kernel, rfl⟩
theorem d_Js_checkIndex_5 : dc Js_checkIndex.2.1 5 8 (.invokestatic 1059) 3 := ⟨by decide +kernel, rfl⟩
theorem d_Js_checkIndex_8 : dc Js_checkIndex.2.1 8 9 .pop 1 := ⟨by decide +kernel, rfl⟩
theorem d_Js_checkIndex_9 : dc Js_checkIndex.2.1 9 10 .return_ 1 := ⟨by decide +kernel, rfl⟩
def Js_indexOf : MD := (⟨"java/lang/String", "indexOf", "(I)I"⟩, prog_18_method_79_code, 2, (some FieldType.int))
theorem d_Js_indexOf_0 : dc Js_indexOf.2.1 0 1 (.aload_n 0) 1 := ⟨by decide +kernel, rfl⟩
theorem d_Js_indexOf_1 : dc Js_indexOf.2.1 1 2 (.iload_n 1) 1 := ⟨by decide +kernel, rfl⟩
theorem d_Js_indexOf_2 : dc Js_indexOf.2.1 2 3 (.iconst 0) 1 := ⟨by decide +kernel, rfl⟩
theorem d_Js_indexOf_3 : dc Js_indexOf.2.1 3 6 (.invokevirtual 633) 3 := ⟨by decide +kernel, rfl⟩
theorem d_Js_indexOf_6 : dc Js_indexOf.2.1 6 7 .ireturn 1 := ⟨by decide +kernel, rfl⟩
def Js_indexOf2 : MD := (⟨"java/lang/String", "indexOf", "(II)I"⟩, prog_18_method_80_code, 3, (some FieldType.int))
theorem d_Js_indexOf2_0 : dc Js_indexOf2.2.1 0 1 (.aload_n 0) 1 := ⟨by decide +kernel, rfl⟩
theorem d_Js_indexOf2_1 : dc Js_indexOf2.2.1 1 4 (.invokevirtual 492) 3 := ⟨by decide +kernel, rfl⟩
theorem d_Js_indexOf2_4 : db Js_indexOf2.2.1 4 7 23 (.ifCond .eq 19) 3 (19) := ⟨by decide +kernel, rfl, rfl⟩
theorem d_Js_indexOf2_7 : dc Js_indexOf2.2.1 7 8 (.aload_n 0) 1 := ⟨by decide +kernel, rfl⟩
theorem d_Js_indexOf2_8 : dc Js_indexOf2.2.1 8 11 (.getfield 9) 3 := ⟨by decide +kernel, rfl⟩
theorem d_Js_indexOf2_11 : dc Js_indexOf2.2.1 11 12 (.iload_n 1) 1 := ⟨by decide +kernel, rfl⟩
theorem d_Js_indexOf2_12 : dc Js_indexOf2.2.1 12 13 (.iload_n 2) 1 := ⟨by decide +kernel, rfl⟩
theorem d_Js_indexOf2_13 : dc Js_indexOf2.2.1 13 14 (.aload_n 0) 1 := ⟨by decide +kernel, rfl⟩
theorem d_Js_indexOf2_14 : dc Js_indexOf2.2.1 14 17 (.invokevirtual 505) 3 := ⟨by decide +kernel, rfl⟩
theorem d_Js_indexOf2_17 : dc Js_indexOf2.2.1 17 20 (.invokestatic 637) 3 := ⟨by decide +kernel, rfl⟩
theorem d_Js_indexOf2_20 : db Js_indexOf2.2.1 20 23 36 (.goto 16) 3 (16) := ⟨by decide +kernel, rfl, rfl⟩
theorem d_Js_indexOf2_23 : dc Js_indexOf2.2.1 23 24 (.aload_n 0) 1 := ⟨by decide +kernel, rfl⟩
theorem d_Js_indexOf2_24 : dc Js_indexOf2.2.1 24 27 (.getfield 9) 3 := ⟨by decide +kernel, rfl⟩
theorem d_Js_indexOf2_27 : dc Js_indexOf2.2.1 27 28 (.iload_n 1) 1 := ⟨by decide +kernel, rfl⟩
theorem d_Js_indexOf2_28 : dc Js_indexOf2.2.1 28 29 (.iload_n 2) 1 := ⟨by decide +kernel, rfl⟩
theorem d_Js_indexOf2_29 : dc Js_indexOf2.2.1 29 30 (.aload_n 0) 1 := ⟨by decide +kernel, rfl⟩
theorem d_Js_indexOf2_30 : dc Js_indexOf2.2.1 30 33 (.invokevirtual 505) 3 := ⟨by decide +kernel, rfl⟩
theorem d_Js_indexOf2_33 : dc Js_indexOf2.2.1 33 36 (.invokestatic 640) 3 := ⟨by decide +kernel, rfl⟩
theorem d_Js_indexOf2_36 : dc Js_indexOf2.2.1 36 37 .ireturn 1 := ⟨by decide +kernel, rfl⟩
def Jl_indexOf : MD := (⟨"java/lang/StringLatin1", "indexOf", "([BIII)I"⟩, prog_19_method_22_code, 4, (some FieldType.int))
theorem d_Jl_indexOf_0 : dc Jl_indexOf.2.1 0 1 (.iload_n 1) 1 := ⟨by decide +kernel, rfl⟩
theorem d_Jl_indexOf_1 : dc Jl_indexOf.2.1 1 4 (.invokestatic 88) 3 := ⟨by decide +kernel, rfl⟩
theorem d_Jl_indexOf_4 : db Jl_indexOf.2.1 4 7 9 (.ifCond .ne 5) 3 (5) := ⟨by decide +kernel, rfl, rfl⟩
theorem d_Jl_indexOf_7 : dc Jl_indexOf.2.1 7 8 (.iconst (-1)) 1 := ⟨by decide +kernel, rfl⟩
theorem d_Jl_indexOf_8 : dc Jl_indexOf.2.1 8 9 .ireturn 1 := ⟨by decide +kernel, rfl⟩
theorem d_Jl_indexOf_9 : dc Jl_indexOf.2.1 9 10 (.iload_n 2) 1 := ⟨by decide +kernel, rfl⟩
theorem d_Jl_indexOf_10 : dc Jl_indexOf.2.1 10 11 (.iconst 0) 1 := ⟨by decide +kernel, rfl⟩
theorem d_Jl_indexOf_11 : dc Jl_indexOf.2.1 11 14 (.invokestatic 92) 3 := ⟨by decide +kernel, rfl⟩
theorem d_Jl_indexOf_14 : dc Jl_indexOf.2.1 14 15 (.istore_n 2) 1 := ⟨by decide +kernel, rfl⟩
theorem d_Jl_indexOf_15 : dc Jl_indexOf.2.1 15 16 (.iload_n 3) 1 := ⟨by decide +kernel, rfl⟩
theorem d_Jl_indexOf_16 : dc Jl_indexOf.2.1 16 17 (.aload_n 0) 1 := ⟨by decide +kernel, rfl⟩
theorem d_Jl_indexOf_17 : dc Jl_indexOf.2.1 17 18 .arraylength 1 := ⟨by decide +kernel, rfl⟩
theorem d_Jl_indexOf_18 : dc Jl_indexOf.2.1 18 21 (.invokestatic 38) 3 := ⟨by decide +kernel, rfl⟩
theorem d_Jl_indexOf_21 : dc Jl_indexOf.2.1 21 22 (.istore_n 3) 1 := ⟨by decide +kernel, rfl⟩
theorem d_Jl_indexOf_22 : dc Jl_indexOf.2.1 22 23 (.iload_n 2) 1 := ⟨by decide +kernel, rfl⟩
theorem d_Jl_indexOf_23 : dc Jl_indexOf.2.1 23 24 (.iload_n 3) 1 := ⟨by decide +kernel, rfl⟩
theorem d_Jl_indexOf_24 : db Jl_indexOf.2.1 24 27 29 (.if_icmp .lt 5) 3 (5) := ⟨by decide +kernel, rfl, rfl⟩
theorem d_Jl_indexOf_27 : dc Jl_indexOf.2.1 27 28 (.iconst (-1)) 1 := ⟨by decide +kernel, rfl⟩
theorem d_Jl_indexOf_28 : dc Jl_indexOf.2.1 28 29 .ireturn 1 := ⟨by decide +kernel, rfl⟩
theorem d_Jl_indexOf_29 : dc Jl_indexOf.2.1 29 30 (.aload_n 0) 1 := ⟨by decide +kernel, rfl⟩
theorem d_Jl_indexOf_30 : dc Jl_indexOf.2.1 30 31 (.iload_n 1) 1 := ⟨by decide +kernel, rfl⟩
theorem d_Jl_indexOf_31 : dc Jl_indexOf.2.1 31 32 (.iload_n 2) 1 := ⟨by decide +kernel, rfl⟩
theorem d_Jl_indexOf_32 : dc Jl_indexOf.2.1 32 33 (.iload_n 3) 1 := ⟨by decide +kernel, rfl⟩
theorem d_Jl_indexOf_33 : dc Jl_indexOf.2.1 33 36 (.invokestatic 95) 3 := ⟨by decide +kernel, rfl⟩
theorem d_Jl_indexOf_36 : dc Jl_indexOf.2.1 36 37 .ireturn 1 := ⟨by decide +kernel, rfl⟩
def Jl_canEncode : MD := (⟨"java/lang/StringLatin1", "canEncode", "(I)Z"⟩, prog_19_method_4_code, 1, (some FieldType.boolean))
theorem d_Jl_canEncode_0 : dc Jl_canEncode.2.1 0 1 (.iload_n 0) 1 := ⟨by decide +kernel, rfl⟩
theorem d_Jl_canEncode_1 : db Jl_canEncode.2.1 1 4 15 (.ifCond .lt 14) 3 (14) := ⟨by decide +kernel, rfl, rfl⟩
theorem d_Jl_canEncode_4 : dc Jl_canEncode.2.1 4 5 (.iload_n 0) 1 := ⟨by decide +kernel, rfl⟩
theorem d_Jl_canEncode_5 : dc Jl_canEncode.2.1 5 8 (.sipush 255) 3 := ⟨by decide +kernel, rfl⟩
theorem d_Jl_canEncode_8 : db Jl_canEncode.2.1 8 11 15 (.if_icmp .gt 7) 3 (7) := ⟨by decide +kernel, rfl, rfl⟩
theorem d_Jl_canEncode_11 : dc Jl_canEncode.2.1 11 12 (.iconst 1) 1 := ⟨by decide +kernel, rfl⟩
theorem d_Jl_canEncode_12 : db Jl_canEncode.2.1 12 15 16 (.goto 4) 3 (4) := ⟨by decide +kernel, rfl, rfl⟩
theorem d_Jl_canEncode_15 : dc Jl_canEncode.2.1 15 16 (.iconst 0) 1 := ⟨by decide +kernel, rfl⟩
theorem d_Jl_canEncode_16 : dc Jl_canEncode.2.1 16 17 .ireturn 1 := ⟨by decide +kernel, rfl⟩
def Jl_indexOfChar : MD := (⟨"java/lang/StringLatin1", "indexOfChar", "([BIII)I"⟩, prog_19_method_23_code, 6, (some FieldType.int))
theorem d_Jl_indexOfChar_0 : dc Jl_indexOfChar.2.1 0 1 (.iload_n 1) 1 := ⟨by decide +kernel, rfl⟩
theorem d_Jl_indexOfChar_1 : dc Jl_indexOfChar.2.1 1 2 .i2b 1 := ⟨by decide +kernel, rfl⟩
theorem d_Jl_indexOfChar_2 : dc Jl_indexOfChar.2.1 2 4 (.istore 4) 2 := ⟨by decide +kernel, rfl⟩
theorem d_Jl_indexOfChar_4 : dc Jl_indexOfChar.2.1 4 5 (.iload_n 2) 1 := ⟨by decide +kernel, rfl⟩
theorem d_Jl_indexOfChar_5 : dc Jl_indexOfChar.2.1 5 7 (.istore 5) 2 := ⟨by decide +kernel, rfl⟩
theorem d_Jl_indexOfChar_7 : dc Jl_indexOfChar.2.1 7 9 (.iload 5) 2 := ⟨by decide +kernel, rfl⟩
theorem d_Jl_indexOfChar_9 : dc Jl_indexOfChar.2.1 9 10 (.iload_n 3) 1 := ⟨by decide +kernel, rfl⟩
theorem d_Jl_indexOfChar_10 : db Jl_indexOfChar.2.1 10 13 31 (.if_icmp .ge 21) 3 (21) := ⟨by decide +kernel, rfl, rfl⟩
theorem d_Jl_indexOfChar_13 : dc Jl_indexOfChar.2.1 13 14 (.aload_n 0) 1 := ⟨by decide +kernel, rfl⟩
theorem d_Jl_indexOfChar_14 : dc Jl_indexOfChar.2.1 14 16 (.iload 5) 2 := ⟨by decide +kernel, rfl⟩
theorem d_Jl_indexOfChar_16 : dc Jl_indexOfChar.2.1 16 17 .baload 1 := ⟨by decide +kernel, rfl⟩
theorem d_Jl_indexOfChar_17 : dc Jl_indexOfChar.2.1 17 19 (.iload 4) 2 := ⟨by decide +kernel, rfl⟩
theorem d_Jl_indexOfChar_19 : db Jl_indexOfChar.2.1 19 22 25 (.if_icmp .ne 6) 3 (6) := ⟨by decide +kernel, rfl, rfl⟩
theorem d_Jl_indexOfChar_22 : dc Jl_indexOfChar.2.1 22 24 (.iload 5) 2 := ⟨by decide +kernel, rfl⟩
theorem d_Jl_indexOfChar_24 : dc Jl_indexOfChar.2.1 24 25 .ireturn 1 := ⟨by decide +kernel, rfl⟩
theorem d_Jl_indexOfChar_25 : dc Jl_indexOfChar.2.1 25 28 (.iinc 5 1) 3 := ⟨by decide +kernel, rfl⟩
theorem d_Jl_indexOfChar_28 : db Jl_indexOfChar.2.1 28 31 7 (.goto (-21)) 3 (-21) := ⟨by decide +kernel, rfl, rfl⟩
theorem d_Jl_indexOfChar_31 : dc Jl_indexOfChar.2.1 31 32 (.iconst (-1)) 1 := ⟨by decide +kernel, rfl⟩
theorem d_Jl_indexOfChar_32 : dc Jl_indexOfChar.2.1 32 33 .ireturn 1 := ⟨by decide +kernel, rfl⟩
def Jp_checkIndex : MD := (⟨"jdk/internal/util/Preconditions", "checkIndex", "(IILjava/util/function/BiFunction;)I"⟩, prog_22_method_11_code, 3, (some FieldType.int))
theorem d_Jp_checkIndex_0 : dc Jp_checkIndex.2.1 0 1 (.iload_n 0) 1 := ⟨by decide +kernel, rfl⟩
theorem d_Jp_checkIndex_1 : db Jp_checkIndex.2.1 1 4 9 (.ifCond .lt 8) 3 (8) := ⟨by decide +kernel, rfl, rfl⟩
theorem d_Jp_checkIndex_4 : dc Jp_checkIndex.2.1 4 5 (.iload_n 0) 1 := ⟨by decide +kernel, rfl⟩
theorem d_Jp_checkIndex_5 : dc Jp_checkIndex.2.1 5 6 (.iload_n 1) 1 := ⟨by decide +kernel, rfl⟩
theorem d_Jp_checkIndex_6 : db Jp_checkIndex.2.1 6 9 16 (.if_icmp .lt 10) 3 (10) := ⟨by decide +kernel, rfl, rfl⟩
theorem d_Jp_checkIndex_9 : dc Jp_checkIndex.2.1 9 10 (.aload_n 2) 1 := ⟨by decide +kernel, rfl⟩
theorem d_Jp_checkIndex_10 : dc Jp_checkIndex.2.1 10 11 (.iload_n 0) 1 := ⟨by decide +kernel, rfl⟩
theorem d_Jp_checkIndex_11 : dc Jp_checkIndex.2.1 11 12 (.iload_n 1) 1 := ⟨by decide +kernel, rfl⟩
theorem d_Jp_checkIndex_12 : dc Jp_checkIndex.2.1 12 15 (.invokestatic 95) 3 := ⟨by decide +kernel, rfl⟩
theorem d_Jp_checkIndex_15 : dc Jp_checkIndex.2.1 15 16 .athrow 1 := ⟨by decide +kernel, rfl⟩
theorem d_Jp_checkIndex_16 : dc Jp_checkIndex.2.1 16 17 (.iload_n 0) 1 := ⟨by decide +kernel, rfl⟩
theorem d_Jp_checkIndex_17 : dc Jp_checkIndex.2.1 17 18 .ireturn 1 := ⟨by decide +kernel, rfl⟩
theorem lk_Ta_65 : LkV "NoonFields$Tape" 65 Js_length 0 := ⟨⟨ws_in 765 (by decide +kernel) (by decide +kernel), ws_in 82 (by decide +kernel) (by decide +kernel), ⟨by decide +kernel, by decide +kernel⟩, by decide +kernel, ws_in 762 (by decide +kernel) (by decide +kernel), by decide⟩, ws_in 763 (by decide +kernel) (by decide +kernel), ws_in 764 (by decide +kernel) (by decide +kernel)⟩
theorem lk_Ta_69 : LkV "NoonFields$Tape" 69 Js_charAt 1 := ⟨⟨ws_in 775 (by decide +kernel) (by decide +kernel), ws_in 82 (by decide +kernel) (by decide +kernel), ⟨by decide +kernel, by decide +kernel⟩, by decide +kernel, ws_in 772 (by decide +kernel) (by decide +kernel), by decide⟩, ws_in 773 (by decide +kernel) (by decide +kernel), ws_in 774 (by decide +kernel) (by decide +kernel)⟩
theorem lk_Ta_112 : LkV "NoonFields$Tape" 112 Js_indexOf 1 := ⟨⟨ws_in 842 (by decide +kernel) (by decide +kernel), ws_in 82 (by decide +kernel) (by decide +kernel), ⟨by decide +kernel, by decide +kernel⟩, by decide +kernel, ws_in 839 (by decide +kernel) (by decide +kernel), by decide⟩, ws_in 840 (by decide +kernel) (by decide +kernel), ws_in 841 (by decide +kernel) (by decide +kernel)⟩
theorem lk_Js_335 : LkV "java/lang/String" 335 Js_coder 0 := ⟨⟨ws_in 769 (by decide +kernel) (by decide +kernel), ws_in 82 (by decide +kernel) (by decide +kernel), ⟨by decide +kernel, by decide +kernel⟩, by decide +kernel, ws_in 766 (by decide +kernel) (by decide +kernel), by decide⟩, ws_in 767 (by decide +kernel) (by decide +kernel), ws_in 768 (by decide +kernel) (by decide +kernel)⟩
theorem lk_Js_492 : LkV "java/lang/String" 492 Js_isLatin1 0 := ⟨⟨ws_in 779 (by decide +kernel) (by decide +kernel), ws_in 82 (by decide +kernel) (by decide +kernel), ⟨by decide +kernel, by decide +kernel⟩, by decide +kernel, ws_in 776 (by decide +kernel) (by decide +kernel), by decide⟩, ws_in 777 (by decide +kernel) (by decide +kernel), ws_in 778 (by decide +kernel) (by decide +kernel)⟩
theorem lk_Js_495 : LkS "java/lang/String" 495 Jl_charAt 2 := ⟨⟨ws_in 782 (by decide +kernel) (by decide +kernel), ws_in 83 (by decide +kernel) (by decide +kernel), ⟨by decide +kernel, by decide +kernel⟩, by decide +kernel, ws_in 780 (by decide +kernel) (by decide +kernel), by decide⟩, ws_in 781 (by decide +kernel) (by decide +kernel)⟩
theorem lk_Js_505 : LkV "java/lang/String" 505 Js_length 0 := ⟨⟨ws_in 765 (by decide +kernel) (by decide +kernel), ws_in 82 (by decide +kernel) (by decide +kernel), ⟨by decide +kernel, by decide +kernel⟩, by decide +kernel, ws_in 847 (by decide +kernel) (by decide +kernel), by decide⟩, ws_in 763 (by decide +kernel) (by decide +kernel), ws_in 764 (by decide +kernel) (by decide +kernel)⟩
theorem lk_Js_633 : LkV "java/lang/String" 633 Js_indexOf2 2 := ⟨⟨ws_in 846 (by decide +kernel) (by decide +kernel), ws_in 82 (by decide +kernel) (by decide +kernel), ⟨by decide +kernel, by decide +kernel⟩, by decide +kernel, ws_in 843 (by decide +kernel) (by decide +kernel), by decide⟩, ws_in 844 (by decide +kernel) (by decide +kernel), ws_in 845 (by decide +kernel) (by decide +kernel)⟩
theorem lk_Js_637 : LkS "java/lang/String" 637 Jl_indexOf 4 := ⟨⟨ws_in 850 (by decide +kernel) (by decide +kernel), ws_in 83 (by decide +kernel) (by decide +kernel), ⟨by decide +kernel, by decide +kernel⟩, by decide +kernel, ws_in 848 (by decide +kernel) (by decide +kernel), by decide⟩, ws_in 849 (by decide +kernel) (by decide +kernel)⟩
theorem lk_Js_1059 : LkS "java/lang/String" 1059 Jp_checkIndex 3 := ⟨⟨ws_in 790 (by decide +kernel) (by decide +kernel), ws_in 84 (by decide +kernel) (by decide +kernel), ⟨by decide +kernel, by decide +kernel⟩, by decide +kernel, ws_in 788 (by decide +kernel) (by decide +kernel), by decide⟩, ws_in 789 (by decide +kernel) (by decide +kernel)⟩
theorem lk_Jl_9 : LkS "java/lang/StringLatin1" 9 Js_checkIndex 2 := ⟨⟨ws_in 785 (by decide +kernel) (by decide +kernel), ws_in 82 (by decide +kernel) (by decide +kernel), ⟨by decide +kernel, by decide +kernel⟩, by decide +kernel, ws_in 783 (by decide +kernel) (by decide +kernel), by decide⟩, ws_in 784 (by decide +kernel) (by decide +kernel)⟩
theorem lk_Jl_88 : LkS "java/lang/StringLatin1" 88 Jl_canEncode 1 := ⟨⟨ws_in 853 (by decide +kernel) (by decide +kernel), ws_in 83 (by decide +kernel) (by decide +kernel), ⟨by decide +kernel, by decide +kernel⟩, by decide +kernel, ws_in 851 (by decide +kernel) (by decide +kernel), by decide⟩, ws_in 852 (by decide +kernel) (by decide +kernel)⟩
theorem lk_Jl_95 : LkS "java/lang/StringLatin1" 95 Jl_indexOfChar 4 := ⟨⟨ws_in 858 (by decide +kernel) (by decide +kernel), ws_in 83 (by decide +kernel) (by decide +kernel), ⟨by decide +kernel, by decide +kernel⟩, by decide +kernel, ws_in 856 (by decide +kernel) (by decide +kernel), by decide⟩, ws_in 857 (by decide +kernel) (by decide +kernel)⟩
theorem lm_Jl_38 : Cond.methodLink "java/lang/StringLatin1" 38 Lib.Math.min.name ∈ WS := ws_in 855 (by decide +kernel) (by decide +kernel)
theorem lm_Jl_92 : Cond.methodLink "java/lang/StringLatin1" 92 Lib.Math.max.name ∈ WS := ws_in 854 (by decide +kernel) (by decide +kernel)
theorem fs_Js_9 : Cond.fieldLink "java/lang/String" 9 "java/lang/String" "value" "[B" ∈ WS := ws_in 1557 (by decide +kernel) (by decide +kernel)
theorem fs_Js_15 : Cond.fieldLink "java/lang/String" 15 "java/lang/String" "coder" "B" ∈ WS := ws_in 1558 (by decide +kernel) (by decide +kernel)
theorem fs_Js_38 : Cond.fieldLink "java/lang/String" 38 "java/lang/String" "COMPACT_STRINGS" "Z" ∈ WS := ws_in 770 (by decide +kernel) (by decide +kernel)
theorem fs_Js_1053 : Cond.fieldLink "java/lang/String" 1053 "jdk/internal/util/Preconditions" "SIOOBE_FORMATTER" "Ljava/util/function/BiFunction;" ∈ WS := ws_in 786 (by decide +kernel) (by decide +kernel)
theorem p_Js_coder (g : CX) (d : Nat) (hd : 0 ≤ d) (σ : Sg) (i : Nat) (hi : i < 6) : RunM g d Js_coder [.ref (2000 + i)] σ (PI 0 σ) := by
  refine RunM.of 0 (by decide +kernel) rfl ?_
  intro κ hg hx hk0 G E
  subst hg
  have hk : 1 ≤ kn κ := Nat.le_of_eq hk0.symm
  show X κ NC 0 [some (.ref (2000 + i))] [] (hv σ)
  refine x_compact G d_Js_coder_0 fs_Js_38 ?_
  refine x_if_eq G d_Js_coder_3 (fun c3 => absurd c3 ((by decide +kernel))) (fun c3 => ?_)
  refine x_aload0 G d_Js_coder_6 ?_
  refine x_stcode G d_Js_coder_7 fs_Js_15 hi ?_
  refine x_goto G d_Js_coder_10 ?_
  exact m_iret E G d_Js_coder_14 hx rfl rfl ⟨rfl, rfl⟩
theorem sL_sh : ∀ i, i < 6 → nI (sL i) >>> ((0 : Int32) &&& 31) = nI (sL i) := by decide +kernel
theorem p_Js_length (g : CX) (d : Nat) (hd : 1 ≤ d) (σ : Sg) (i : Nat) (hi : i < 6) : RunM g d Js_length [.ref (2000 + i)] σ (PI (nI (sL i)) σ) := by
  refine RunM.of 0 (by decide +kernel) rfl ?_
  intro κ hg hx hk0 G E
  subst hg
  have hk : 1 ≤ kn κ := Nat.le_of_eq hk0.symm
  show X κ NC 0 [some (.ref (2000 + i))] [] (hv σ)
  refine x_aload0 G d_Js_length_0 ?_
  refine x_stval G d_Js_length_1 fs_Js_9 hi ?_
  refine x_stlen (v := nI (sL i)) G d_Js_length_4 hi rfl ?_
  refine x_aload0 G d_Js_length_5 ?_
  refine m_callT_pi (p_Js_coder (kg κ) (d - 1) (by omega) σ i hi) G d_Js_length_6 lk_Js_335 hi rfl (by omega) rfl (Nat.le_of_ble_eq_true rfl) hx ?_
  refine x_ishr G d_Js_length_9 ?_
  exact m_iret E G d_Js_length_10 hx rfl rfl (pi_of (sL_sh i hi))
theorem p_Js_isLatin1 (g : CX) (d : Nat) (hd : 0 ≤ d) (σ : Sg) (i : Nat) (hi : i < 6) : RunM g d Js_isLatin1 [.ref (2000 + i)] σ (PI 1 σ) := by
  refine RunM.of 0 (by decide +kernel) rfl ?_
  intro κ hg hx hk0 G E
  subst hg
  have hk : 1 ≤ kn κ := Nat.le_of_eq hk0.symm
  show X κ NC 0 [some (.ref (2000 + i))] [] (hv σ)
  refine x_compact G d_Js_isLatin1_0 fs_Js_38 ?_
  refine x_if_eq G d_Js_isLatin1_3 (fun c3 => absurd c3 ((by decide +kernel))) (fun c3 => ?_)
  refine x_aload0 G d_Js_isLatin1_6 ?_
  refine x_stcode G d_Js_isLatin1_7 fs_Js_15 hi ?_
  refine x_if_ne G d_Js_isLatin1_10 (fun c10 => absurd (rfl) c10) (fun c10 => ?_)
  refine x_iconst (v := nI 1) G d_Js_isLatin1_13 rfl ?_
  refine x_goto G d_Js_isLatin1_14 ?_
  exact m_iret E G d_Js_isLatin1_18 hx rfl rfl ⟨rfl, rfl⟩
theorem p_Jp_checkIndex (g : CX) (d : Nat) (hd : 0 ≤ d) (σ : Sg) (a l : Nat) (hal : a < l) (hl9 : l < 2 ^ 31) (v : Value) (hvc : v.category = 1) : RunM g d Jp_checkIndex [.int (nI a), .int (nI l), v] σ (PI (nI a) σ) := by
  have hlin : lin [.int (nI a), .int (nI l), v] = [some (.int (nI a)), some (.int (nI l)), some v] := by rw [lin, if_neg (show ¬ (Value.int (nI a)).category = 2 from (show ¬ (1 : Nat) = 2 by decide)), lin, if_neg (show ¬ (Value.int (nI l)).category = 2 from (show ¬ (1 : Nat) = 2 by decide)), lin, if_neg (by rw [hvc]; decide), lin]
  refine RunM.of 0 (by decide +kernel) (by rw [hlin]; rfl) ?_
  intro κ hg hx hk0 G E
  subst hg
  have hk : 3 ≤ kn κ := Nat.le_of_eq hk0.symm
  rw [hlin]
  show X κ NC 0 [some (.int (nI a)), some (.int (nI l)), some v] [] (hv σ)
  refine x_iload0 G d_Jp_checkIndex_0 ?_
  refine x_if_lt G d_Jp_checkIndex_1 (fun c1 => absurd c1 ((nI_pos (by omega)))) (fun c1 => ?_)
  refine x_iload0 G d_Jp_checkIndex_4 ?_
  refine x_iload1 G d_Jp_checkIndex_5 ?_
  refine x_icmp_lt G d_Jp_checkIndex_6 (fun c6 => ?_) (fun c6 => absurd ((nI_lt hal hl9)) c6)
  refine x_iload0 G d_Jp_checkIndex_16 ?_
  exact m_iret E G d_Jp_checkIndex_17 hx rfl rfl ⟨rfl, rfl⟩
theorem p_Js_checkIndex (g : CX) (d : Nat) (hd : 1 ≤ d) (σ : Sg) (a l : Nat) (hal : a < l) (hl9 : l < 2 ^ 31) : RunM g d Js_checkIndex [.int (nI a), .int (nI l)] σ (PV (fun σ1 => σ1 = σ)) := by
  refine RunM.of 0 (by decide +kernel) rfl ?_
  intro κ hg hx hk0 G E
  subst hg
  have hk : 2 ≤ kn κ := Nat.le_of_eq hk0.symm
  show X κ NC 0 [some (.int (nI a)), some (.int (nI l))] [] (hv σ)
  refine x_iload0 G d_Js_checkIndex_0 ?_
  refine x_iload1 G d_Js_checkIndex_1 ?_
  refine x_format G d_Js_checkIndex_2 fs_Js_1053 (fun v hvr => ?_)
  have hvc : v.category = 1 := by rcases hvr with q | ⟨k, q⟩ <;> rw [q] <;> rfl
  refine m_callS_pi (p_Jp_checkIndex (kg κ) (d - 1) (by omega) σ a l hal hl9 v hvc) G d_Js_checkIndex_5 lk_Js_1059 (by omega) rfl (Nat.le_of_ble_eq_true rfl) hx ?_
  refine x_pop G d_Js_checkIndex_8 rfl ?_
  exact m_vret E G d_Js_checkIndex_9 hx rfl ⟨rfl, rfl⟩
theorem sB_c : ∀ i, i < 6 → ∀ j, j < sL i → ((sB i j &&& nI 255).toUInt32 % 65536).toInt32 = sB i j := by decide +kernel
theorem p_Jl_charAt (g : CX) (d : Nat) (hd : 2 ≤ d) (σ : Sg) (i j : Nat) (hi : i < 6) (hj : j < sL i) : RunM g d Jl_charAt [.ref (2100 + i), .int (nI j)] σ (PI (sB i j) σ) := by
  refine RunM.of 0 (by decide +kernel) rfl ?_
  intro κ hg hx hk0 G E
  subst hg
  have hk : 2 ≤ kn κ := Nat.le_of_eq hk0.symm
  show X κ NC 0 [some (.ref (2100 + i)), some (.int (nI j))] [] (hv σ)
  have h4 := sL_le i hi
  refine x_iload1 G d_Jl_charAt_0 ?_
  refine x_aload0 G d_Jl_charAt_1 ?_
  refine x_stlen (v := nI (sL i)) G d_Jl_charAt_2 hi rfl ?_
  refine m_callS_pv (p_Js_checkIndex (kg κ) (d - 1) (by omega) σ j (sL i) hj (by omega)) G d_Jl_charAt_3 lk_Jl_9 (by omega) rfl (Nat.le_of_ble_eq_true rfl) hx (fun σ1 h1 => ?_)
  subst h1
  refine x_aload0 G d_Jl_charAt_6 ?_
  refine x_iload1 G d_Jl_charAt_7 ?_
  refine x_stbyt G d_Jl_charAt_8 hi rfl hj ?_
  refine x_sipush (v := nI 255) G d_Jl_charAt_9 rfl ?_
  refine x_iand G d_Jl_charAt_12 ?_
  refine x_i2c G d_Jl_charAt_13 ?_
  exact m_iret E G d_Jl_charAt_14 hx rfl (pk_nc _) (pi_of (sB_c i hi j hj))
theorem p_Js_charAt (g : CX) (d : Nat) (hd : 3 ≤ d) (σ : Sg) (i j : Nat) (hi : i < 6) (hj : j < sL i) : RunM g d Js_charAt [.ref (2000 + i), .int (nI j)] σ (PI (sB i j) σ) := by
  refine RunM.of 0 (by decide +kernel) rfl ?_
  intro κ hg hx hk0 G E
  subst hg
  have hk : 2 ≤ kn κ := Nat.le_of_eq hk0.symm
  show X κ NC 0 [some (.ref (2000 + i)), some (.int (nI j))] [] (hv σ)
  refine x_aload0 G d_Js_charAt_0 ?_
  refine m_callT_pi (p_Js_isLatin1 (kg κ) (d - 1) (by omega) σ i hi) G d_Js_charAt_1 lk_Js_492 hi rfl (by omega) rfl (Nat.le_of_ble_eq_true rfl) hx ?_
  refine x_if_eq G d_Js_charAt_4 (fun c4 => absurd c4 ((by decide +kernel))) (fun c4 => ?_)
  refine x_aload0 G d_Js_charAt_7 ?_
  refine x_stval G d_Js_charAt_8 fs_Js_9 hi ?_
  refine x_iload1 G d_Js_charAt_11 ?_
  refine m_callS_pi (p_Jl_charAt (kg κ) (d - 1) (by omega) σ i j hi hj) G d_Js_charAt_12 lk_Js_495 (by omega) rfl (Nat.le_of_ble_eq_true rfl) hx ?_
  exact m_iret E G d_Js_charAt_15 hx rfl (by rw [← sB_c i hi j hj]; exact pk_nc _) ⟨rfl, rfl⟩
theorem p_Jl_canEncode (g : CX) (d : Nat) (hd : 0 ≤ d) (σ : Sg) (c : Nat) (hc : c < 128) : RunM g d Jl_canEncode [.int (nI c)] σ (PI 1 σ) := by
  refine RunM.of 0 (by decide +kernel) rfl ?_
  intro κ hg hx hk0 G E
  subst hg
  have hk : 1 ≤ kn κ := Nat.le_of_eq hk0.symm
  show X κ NC 0 [some (.int (nI c))] [] (hv σ)
  refine x_iload0 G d_Jl_canEncode_0 ?_
  refine x_if_lt G d_Jl_canEncode_1 (fun c1 => absurd c1 ((nI_pos (by omega)))) (fun c1 => ?_)
  refine x_iload0 G d_Jl_canEncode_4 ?_
  refine x_sipush (v := nI 255) G d_Jl_canEncode_5 rfl ?_
  refine x_icmp_gt G d_Jl_canEncode_8 (fun c8 => absurd c8 ((nI_nlt (by omega) (by omega)))) (fun c8 => ?_)
  refine x_iconst (v := nI 1) G d_Jl_canEncode_11 rfl ?_
  refine x_goto G d_Jl_canEncode_12 ?_
  exact m_iret E G d_Jl_canEncode_16 hx rfl rfl ⟨rfl, rfl⟩
theorem b7 : ∀ c, c < 128 → (nI c).toInt8.toInt32 = nI c := by decide +kernel
theorem p_Jl_indexOfChar (g : CX) (d : Nat) (hd : 0 ≤ d) (σ : Sg) (i c : Nat) (hi : i < 6) (hc : c < 128) : RunM g d Jl_indexOfChar [.ref (2100 + i), .int (nI c), .int (nI 0), .int (nI (sL i))] σ (PI (txF i c 0 (sL i)) σ) := by
  refine RunM.of 2 (by decide +kernel) rfl ?_
  intro κ hg hx hk0 G E
  subst hg
  have hk : 6 ≤ kn κ := Nat.le_of_eq hk0.symm
  show X κ NC 0 [some (.ref (2100 + i)), some (.int (nI c)), some (.int (nI 0)), some (.int (nI (sL i))), none, none] [] (hv σ)
  have h4 := sL_le i hi
  refine x_iload1 G d_Jl_indexOfChar_0 ?_
  refine x_i2b G d_Jl_indexOfChar_1 ?_
  rw [b7 c hc]
  refine x_istore4 G d_Jl_indexOfChar_2 rfl hk ?_
  refine x_iload2 G d_Jl_indexOfChar_4 ?_
  refine x_istore5 G d_Jl_indexOfChar_5 rfl hk ?_
  have hloop : ∀ (w m k : Nat), k ≤ sL i → k + m = sL i → m < w → txF i c 0 (sL i) = txF i c k m → X κ NC 7 [some (.ref (2100 + i)), some (.int (nI c)), some (.int (nI 0)), some (.int (nI (sL i))), some (.int (nI c)), some (.int (nI k))] [] (hv σ) := by
    intro w
    induction w with
    | zero => intro m k h1 h2 h3; omega
    | succ w ih =>
      intro m k hk1 hk2 hk3 hix
      refine x_iload5 G d_Jl_indexOfChar_7 ?_
      refine x_iload3 G d_Jl_indexOfChar_9 ?_
      refine x_icmp_ge G d_Jl_indexOfChar_10 (fun c10 => ?_) (fun c10 => ?_)
      · have hm0 : m = 0 := by rw [nle (by omega) (by omega)] at c10; omega
        subst hm0
        refine x_iconst (v := (-1)) G d_Jl_indexOfChar_31 rfl ?_
        exact m_iret E G d_Jl_indexOfChar_32 hx rfl rfl (pi_of (by rw [hix]; rfl))
      · have hkm : k < sL i := by rw [nle (by omega) (by omega)] at c10; omega
        refine x_aload0 G d_Jl_indexOfChar_13 ?_
        refine x_iload5 G d_Jl_indexOfChar_14 ?_
        refine x_stbyt G d_Jl_indexOfChar_16 hi rfl hkm ?_
        refine x_iload4 G d_Jl_indexOfChar_17 ?_
        refine x_icmp_ne G d_Jl_indexOfChar_19 (fun c19 => ?_) (fun c19 => ?_)
        · refine x_iinc5 (v := nI (k + 1)) G d_Jl_indexOfChar_25 rfl hk (nI_1 _) ?_
          refine x_goto G d_Jl_indexOfChar_28 ?_
          exact ih (m - 1) (k + 1) (by omega) (by omega) (by omega) (by rw [hix, show m = (m - 1) + 1 by omega, txF, if_neg c19, show m - 1 + 1 - 1 = m - 1 by omega])
        · refine x_iload5 G d_Jl_indexOfChar_22 ?_
          exact m_iret E G d_Jl_indexOfChar_24 hx rfl rfl (pi_of (by rw [hix, show m = (m - 1) + 1 by omega, txF, if_pos (by first | exact c19 | exact Decidable.of_not_not c19)]))
  exact hloop (sL i + 1) (sL i) 0 (by omega) (by omega) (by omega) rfl
theorem sL_pos : ∀ i, i < 6 → 0 < sL i := by decide +kernel
theorem p_Jl_indexOf (g : CX) (d : Nat) (hd : 1 ≤ d) (σ : Sg) (i c : Nat) (hi : i < 6) (hc : c < 128) : RunM g d Jl_indexOf [.ref (2100 + i), .int (nI c), .int (nI 0), .int (nI (sL i))] σ (PI (txF i c 0 (sL i)) σ) := by
  refine RunM.of 0 (by decide +kernel) rfl ?_
  intro κ hg hx hk0 G E
  subst hg
  have hk : 4 ≤ kn κ := Nat.le_of_eq hk0.symm
  show X κ NC 0 [some (.ref (2100 + i)), some (.int (nI c)), some (.int (nI 0)), some (.int (nI (sL i)))] [] (hv σ)
  have h4 := sL_le i hi
  refine x_iload1 G d_Jl_indexOf_0 ?_
  refine m_callS_pi (p_Jl_canEncode (kg κ) (d - 1) (by omega) σ c hc) G d_Jl_indexOf_1 lk_Jl_88 (by omega) rfl (Nat.le_of_ble_eq_true rfl) hx ?_
  refine x_if_ne G d_Jl_indexOf_4 (fun c4 => ?_) (fun c4 => absurd c4 ((by decide +kernel)))
  refine x_iload2 G d_Jl_indexOf_9 ?_
  refine x_iconst (v := nI 0) G d_Jl_indexOf_10 rfl ?_
  refine x_max lm_Jl_92 G d_Jl_indexOf_11 (by omega) (Nat.le_of_ble_eq_true rfl) (Nat.le_of_eq hx.symm) ?_
  rw [if_neg (by decide +kernel)]
  refine x_istore2 G d_Jl_indexOf_14 rfl hk ?_
  refine x_iload3 G d_Jl_indexOf_15 ?_
  refine x_aload0 G d_Jl_indexOf_16 ?_
  refine x_stlen (v := nI (sL i)) G d_Jl_indexOf_17 hi rfl ?_
  refine x_min lm_Jl_38 G d_Jl_indexOf_18 (by omega) (Nat.le_of_ble_eq_true rfl) (Nat.le_of_eq hx.symm) ?_
  rw [if_neg (nI_nlt (Nat.le_refl (sL i)) (by omega))]
  refine x_istore3 G d_Jl_indexOf_21 rfl hk ?_
  refine x_iload2 G d_Jl_indexOf_22 ?_
  refine x_iload3 G d_Jl_indexOf_23 ?_
  refine x_icmp_lt G d_Jl_indexOf_24 (fun c24 => ?_) (fun c24 => absurd ((nI_lt (sL_pos i hi) (by omega))) c24)
  refine x_aload0 G d_Jl_indexOf_29 ?_
  refine x_iload1 G d_Jl_indexOf_30 ?_
  refine x_iload2 G d_Jl_indexOf_31 ?_
  refine x_iload3 G d_Jl_indexOf_32 ?_
  refine m_callS_pi (p_Jl_indexOfChar (kg κ) (d - 1) (by omega) σ i c hi hc) G d_Jl_indexOf_33 lk_Jl_95 (by omega) rfl (Nat.le_of_ble_eq_true rfl) hx ?_
  exact m_iret E G d_Jl_indexOf_36 hx rfl rfl ⟨rfl, rfl⟩
theorem p_Js_indexOf2 (g : CX) (d : Nat) (hd : 2 ≤ d) (σ : Sg) (i c : Nat) (hi : i < 6) (hc : c < 128) : RunM g d Js_indexOf2 [.ref (2000 + i), .int (nI c), .int (nI 0)] σ (PI (txF i c 0 (sL i)) σ) := by
  refine RunM.of 0 (by decide +kernel) rfl ?_
  intro κ hg hx hk0 G E
  subst hg
  have hk : 3 ≤ kn κ := Nat.le_of_eq hk0.symm
  show X κ NC 0 [some (.ref (2000 + i)), some (.int (nI c)), some (.int (nI 0))] [] (hv σ)
  refine x_aload0 G d_Js_indexOf2_0 ?_
  refine m_callT_pi (p_Js_isLatin1 (kg κ) (d - 1) (by omega) σ i hi) G d_Js_indexOf2_1 lk_Js_492 hi rfl (by omega) rfl (Nat.le_of_ble_eq_true rfl) hx ?_
  refine x_if_eq G d_Js_indexOf2_4 (fun c4 => absurd c4 ((by decide +kernel))) (fun c4 => ?_)
  refine x_aload0 G d_Js_indexOf2_7 ?_
  refine x_stval G d_Js_indexOf2_8 fs_Js_9 hi ?_
  refine x_iload1 G d_Js_indexOf2_11 ?_
  refine x_iload2 G d_Js_indexOf2_12 ?_
  refine x_aload0 G d_Js_indexOf2_13 ?_
  refine m_callT_pi (p_Js_length (kg κ) (d - 1) (by omega) σ i hi) G d_Js_indexOf2_14 lk_Js_505 hi rfl (by omega) rfl (Nat.le_of_ble_eq_true rfl) hx ?_
  refine m_callS_pi (p_Jl_indexOf (kg κ) (d - 1) (by omega) σ i c hi hc) G d_Js_indexOf2_17 lk_Js_637 (by omega) rfl (Nat.le_of_ble_eq_true rfl) hx ?_
  refine x_goto G d_Js_indexOf2_20 ?_
  exact m_iret E G d_Js_indexOf2_36 hx rfl rfl ⟨rfl, rfl⟩
theorem p_Js_indexOf (g : CX) (d : Nat) (hd : 3 ≤ d) (σ : Sg) (i c : Nat) (hi : i < 6) (hc : c < 128) : RunM g d Js_indexOf [.ref (2000 + i), .int (nI c)] σ (PI (txF i c 0 (sL i)) σ) := by
  refine RunM.of 0 (by decide +kernel) rfl ?_
  intro κ hg hx hk0 G E
  subst hg
  have hk : 2 ≤ kn κ := Nat.le_of_eq hk0.symm
  show X κ NC 0 [some (.ref (2000 + i)), some (.int (nI c))] [] (hv σ)
  refine x_aload0 G d_Js_indexOf_0 ?_
  refine x_iload1 G d_Js_indexOf_1 ?_
  refine x_iconst (v := nI 0) G d_Js_indexOf_2 rfl ?_
  refine m_callT_pi (p_Js_indexOf2 (kg κ) (d - 1) (by omega) σ i c hi hc) G d_Js_indexOf_3 lk_Js_633 hi rfl (by omega) rfl (Nat.le_of_ble_eq_true rfl) hx ?_
  exact m_iret E G d_Js_indexOf_6 hx rfl rfl ⟨rfl, rfl⟩
