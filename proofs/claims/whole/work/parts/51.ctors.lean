/-! the constructors of the class: the objects of the kinds, the laws, three worlds, the tape, the sheets and slots, the object itself -/
theorem k_27 : (Cond.methodLink "NoonFields" (1 : Nat) ({ cls := "java/lang/Object", name := "<init>", desc := "()V" } : MethodName)) ∈ WS := ws_in 92 (by decide +kernel) (by decide +kernel)
theorem k_28 : Cond.instanceMethod Lib.objectInit ∈ WS := ws_in 93 (by decide +kernel) (by decide +kernel)
theorem k_29 : Cond.code Lib.objectInit ⟨#[0xb1]⟩ 1 none ∈ WS := ws_in 94 (by decide +kernel) (by decide +kernel)
theorem k_30 : (Cond.classLink "NoonFields" (7 : Nat) "NoonFields$Neighbour") ∈ WS := ws_in 95 (by decide +kernel) (by decide +kernel)
theorem k_32 : (Cond.instantiable "NoonFields$Neighbour" (0 : Nat)) ∈ WS := ws_in 97 (by decide +kernel) (by decide +kernel)
theorem k_36 : (Cond.methodLink "NoonFields$Neighbour" (3 : Nat) ({ cls := "java/lang/Object", name := "<init>", desc := "()V" } : MethodName)) ∈ WS := ws_in 101 (by decide +kernel) (by decide +kernel)
theorem k_38 : (Cond.classLink "NoonFields" (10 : Nat) "NoonFields$Lame") ∈ WS := ws_in 103 (by decide +kernel) (by decide +kernel)
theorem k_39 : (Cond.instantiable "NoonFields$Lame" (0 : Nat)) ∈ WS := ws_in 104 (by decide +kernel) (by decide +kernel)
theorem k_45 : (Cond.classLink "NoonFields" (13 : Nat) "NoonFields$Runner") ∈ WS := ws_in 110 (by decide +kernel) (by decide +kernel)
theorem k_46 : (Cond.instantiable "NoonFields$Runner" (0 : Nat)) ∈ WS := ws_in 111 (by decide +kernel) (by decide +kernel)
theorem k_52 : (Cond.classLink "NoonFields" (16 : Nat) "NoonFields$Old") ∈ WS := ws_in 117 (by decide +kernel) (by decide +kernel)
theorem k_53 : (Cond.instantiable "NoonFields$Old" (0 : Nat)) ∈ WS := ws_in 118 (by decide +kernel) (by decide +kernel)
theorem k_59 : (Cond.classLink "NoonFields" (19 : Nat) "NoonFields$Child") ∈ WS := ws_in 124 (by decide +kernel) (by decide +kernel)
theorem k_60 : (Cond.instantiable "NoonFields$Child" (0 : Nat)) ∈ WS := ws_in 125 (by decide +kernel) (by decide +kernel)
theorem k_66 : (Cond.classLink "NoonFields" (22 : Nat) "NoonFields$Hermit") ∈ WS := ws_in 131 (by decide +kernel) (by decide +kernel)
theorem k_67 : (Cond.instantiable "NoonFields$Hermit" (0 : Nat)) ∈ WS := ws_in 132 (by decide +kernel) (by decide +kernel)
theorem k_73 : (Cond.classLink "NoonFields" (31 : Nat) "NoonFields$Laws") ∈ WS := ws_in 138 (by decide +kernel) (by decide +kernel)
theorem k_74 : (Cond.instantiable "NoonFields$Laws" (5 : Nat)) ∈ WS := ws_in 139 (by decide +kernel) (by decide +kernel)
theorem k_78 : (Cond.methodLink "NoonFields$Laws" (3 : Nat) ({ cls := "java/lang/Object", name := "<init>", desc := "()V" } : MethodName)) ∈ WS := ws_in 143 (by decide +kernel) (by decide +kernel)
theorem k_79 : (Cond.classLink "NoonFields$Laws" (9 : Nat) "[[I") ∈ WS := ws_in 144 (by decide +kernel) (by decide +kernel)
theorem k_99 : (Cond.arrayClass FieldType.int) ∈ WS := ws_in 164 (by decide +kernel) (by decide +kernel)
theorem k_100 : (Cond.classLink "NoonFields" (38 : Nat) "NoonFields$World") ∈ WS := ws_in 165 (by decide +kernel) (by decide +kernel)
theorem k_101 : (Cond.instantiable "NoonFields$World" (14 : Nat)) ∈ WS := ws_in 166 (by decide +kernel) (by decide +kernel)
theorem k_105 : (Cond.methodLink "NoonFields$World" (3 : Nat) ({ cls := "java/lang/Object", name := "<init>", desc := "()V" } : MethodName)) ∈ WS := ws_in 170 (by decide +kernel) (by decide +kernel)
theorem k_106 : (Cond.classLink "NoonFields$World" (9 : Nat) "[[I") ∈ WS := ws_in 171 (by decide +kernel) (by decide +kernel)
theorem k_162 : (Cond.classLink "NoonFields" (53 : Nat) "NoonFields$Tape") ∈ WS := ws_in 227 (by decide +kernel) (by decide +kernel)
theorem k_163 : (Cond.instantiable "NoonFields$Tape" (10 : Nat)) ∈ WS := ws_in 228 (by decide +kernel) (by decide +kernel)
theorem k_167 : (Cond.methodLink "NoonFields$Tape" (3 : Nat) ({ cls := "java/lang/Object", name := "<init>", desc := "()V" } : MethodName)) ∈ WS := ws_in 232 (by decide +kernel) (by decide +kernel)
theorem k_206 : (Cond.classLink "NoonFields" (60 : Nat) "NoonFields$Sheet") ∈ WS := ws_in 271 (by decide +kernel) (by decide +kernel)
theorem k_208 : (Cond.classLink "NoonFields" (66 : Nat) "NoonFields$Slot") ∈ WS := ws_in 273 (by decide +kernel) (by decide +kernel)
theorem k_210 : (Cond.instantiable "NoonFields$Sheet" (4 : Nat)) ∈ WS := ws_in 275 (by decide +kernel) (by decide +kernel)
theorem k_214 : (Cond.methodLink "NoonFields$Sheet" (3 : Nat) ({ cls := "java/lang/Object", name := "<init>", desc := "()V" } : MethodName)) ∈ WS := ws_in 279 (by decide +kernel) (by decide +kernel)
theorem k_231 : (Cond.arrayClass FieldType.boolean) ∈ WS := ws_in 296 (by decide +kernel) (by decide +kernel)
theorem k_232 : (Cond.instantiable "NoonFields$Slot" (5 : Nat)) ∈ WS := ws_in 297 (by decide +kernel) (by decide +kernel)
theorem k_236 : (Cond.methodLink "NoonFields$Slot" (1 : Nat) ({ cls := "java/lang/Object", name := "<init>", desc := "()V" } : MethodName)) ∈ WS := ws_in 301 (by decide +kernel) (by decide +kernel)
theorem k_237 : (Cond.classLink "NoonFields$Slot" (7 : Nat) "NoonFields$Sheet") ∈ WS := ws_in 302 (by decide +kernel) (by decide +kernel)
theorem b_Nb_init_2 (g : CX) (d : Nat) (hd : 1 ≤ d) (σ : Sg) (hz : ∀ j, σ 2 j = 0) : RunF g d Nb_init [.ref 2] 2 3 σ 3 σ := by
  refine RunF.of 0 (by decide +kernel) rfl (by decide) ?_
  intro κ D hg hx hk0 hnm hF G E
  subst hg
  have hk : 1 ≤ kn κ := Nat.le_of_eq hk0.symm
  show X κ 3 0 [some (.ref 2)] [] (wd D cF σ)
  refine x_aload0 G d_Nb_init_0 ?_
  refine x_obj G d_Nb_init_1 k_36 k_28 k_29 (by omega) (Nat.le_of_ble_eq_true rfl) (by decide) ?_
  exact f_vret hF E G d_Nb_init_4 hx.symm rfl (by decide) (by decide +kernel)
theorem b_Nb_init_3 (g : CX) (d : Nat) (hd : 1 ≤ d) (σ : Sg) (hz : ∀ j, σ 3 j = 0) : RunF g d Nb_init [.ref 3] 3 4 σ 4 σ := by
  refine RunF.of 0 (by decide +kernel) rfl (by decide) ?_
  intro κ D hg hx hk0 hnm hF G E
  subst hg
  have hk : 1 ≤ kn κ := Nat.le_of_eq hk0.symm
  show X κ 4 0 [some (.ref 3)] [] (wd D cF σ)
  refine x_aload0 G d_Nb_init_0 ?_
  refine x_obj G d_Nb_init_1 k_36 k_28 k_29 (by omega) (Nat.le_of_ble_eq_true rfl) (by decide) ?_
  exact f_vret hF E G d_Nb_init_4 hx.symm rfl (by decide) (by decide +kernel)
theorem b_Nb_init_4 (g : CX) (d : Nat) (hd : 1 ≤ d) (σ : Sg) (hz : ∀ j, σ 4 j = 0) : RunF g d Nb_init [.ref 4] 4 5 σ 5 σ := by
  refine RunF.of 0 (by decide +kernel) rfl (by decide) ?_
  intro κ D hg hx hk0 hnm hF G E
  subst hg
  have hk : 1 ≤ kn κ := Nat.le_of_eq hk0.symm
  show X κ 5 0 [some (.ref 4)] [] (wd D cF σ)
  refine x_aload0 G d_Nb_init_0 ?_
  refine x_obj G d_Nb_init_1 k_36 k_28 k_29 (by omega) (Nat.le_of_ble_eq_true rfl) (by decide) ?_
  exact f_vret hF E G d_Nb_init_4 hx.symm rfl (by decide) (by decide +kernel)
theorem b_Nb_init_5 (g : CX) (d : Nat) (hd : 1 ≤ d) (σ : Sg) (hz : ∀ j, σ 5 j = 0) : RunF g d Nb_init [.ref 5] 5 6 σ 6 σ := by
  refine RunF.of 0 (by decide +kernel) rfl (by decide) ?_
  intro κ D hg hx hk0 hnm hF G E
  subst hg
  have hk : 1 ≤ kn κ := Nat.le_of_eq hk0.symm
  show X κ 6 0 [some (.ref 5)] [] (wd D cF σ)
  refine x_aload0 G d_Nb_init_0 ?_
  refine x_obj G d_Nb_init_1 k_36 k_28 k_29 (by omega) (Nat.le_of_ble_eq_true rfl) (by decide) ?_
  exact f_vret hF E G d_Nb_init_4 hx.symm rfl (by decide) (by decide +kernel)
theorem b_Nb_init_6 (g : CX) (d : Nat) (hd : 1 ≤ d) (σ : Sg) (hz : ∀ j, σ 6 j = 0) : RunF g d Nb_init [.ref 6] 6 7 σ 7 σ := by
  refine RunF.of 0 (by decide +kernel) rfl (by decide) ?_
  intro κ D hg hx hk0 hnm hF G E
  subst hg
  have hk : 1 ≤ kn κ := Nat.le_of_eq hk0.symm
  show X κ 7 0 [some (.ref 6)] [] (wd D cF σ)
  refine x_aload0 G d_Nb_init_0 ?_
  refine x_obj G d_Nb_init_1 k_36 k_28 k_29 (by omega) (Nat.le_of_ble_eq_true rfl) (by decide) ?_
  exact f_vret hF E G d_Nb_init_4 hx.symm rfl (by decide) (by decide +kernel)
theorem b_Nb_init_7 (g : CX) (d : Nat) (hd : 1 ≤ d) (σ : Sg) (hz : ∀ j, σ 7 j = 0) : RunF g d Nb_init [.ref 7] 7 8 σ 8 σ := by
  refine RunF.of 0 (by decide +kernel) rfl (by decide) ?_
  intro κ D hg hx hk0 hnm hF G E
  subst hg
  have hk : 1 ≤ kn κ := Nat.le_of_eq hk0.symm
  show X κ 8 0 [some (.ref 7)] [] (wd D cF σ)
  refine x_aload0 G d_Nb_init_0 ?_
  refine x_obj G d_Nb_init_1 k_36 k_28 k_29 (by omega) (Nat.le_of_ble_eq_true rfl) (by decide) ?_
  exact f_vret hF E G d_Nb_init_4 hx.symm rfl (by decide) (by decide +kernel)
theorem b_La_init_3 (g : CX) (d : Nat) (hd : 2 ≤ d) (σ : Sg) (hz : ∀ j, σ 3 j = 0) : RunF g d La_init [.ref 3] 3 4 σ 4 σ := by
  refine RunF.of 0 (by decide +kernel) rfl (by decide) ?_
  intro κ D hg hx hk0 hnm hF G E
  subst hg
  have hk : 1 ≤ kn κ := Nat.le_of_eq hk0.symm
  show X κ 4 0 [some (.ref 3)] [] (wd D cF σ)
  refine x_aload0 G d_La_init_0 ?_
  refine f_callI (b_Nb_init_3 (kg κ) (d - 1) (by omega) σ hz) hF G d_La_init_1 lk_La_3 ⟨by decide, by decide⟩ (by omega) rfl (Nat.le_of_ble_eq_true rfl) ⟨by decide, by rw [hx]; decide⟩ (fun hF => ?_)
  exact f_vret hF E G d_La_init_4 hx.symm rfl (by decide) (by decide +kernel)
theorem b_La_init_5 (g : CX) (d : Nat) (hd : 2 ≤ d) (σ : Sg) (hz : ∀ j, σ 5 j = 0) : RunF g d La_init [.ref 5] 5 6 σ 6 σ := by
  refine RunF.of 0 (by decide +kernel) rfl (by decide) ?_
  intro κ D hg hx hk0 hnm hF G E
  subst hg
  have hk : 1 ≤ kn κ := Nat.le_of_eq hk0.symm
  show X κ 6 0 [some (.ref 5)] [] (wd D cF σ)
  refine x_aload0 G d_La_init_0 ?_
  refine f_callI (b_Nb_init_5 (kg κ) (d - 1) (by omega) σ hz) hF G d_La_init_1 lk_La_3 ⟨by decide, by decide⟩ (by omega) rfl (Nat.le_of_ble_eq_true rfl) ⟨by decide, by rw [hx]; decide⟩ (fun hF => ?_)
  exact f_vret hF E G d_La_init_4 hx.symm rfl (by decide) (by decide +kernel)
theorem b_Ru_init_4 (g : CX) (d : Nat) (hd : 2 ≤ d) (σ : Sg) (hz : ∀ j, σ 4 j = 0) : RunF g d Ru_init [.ref 4] 4 5 σ 5 σ := by
  refine RunF.of 0 (by decide +kernel) rfl (by decide) ?_
  intro κ D hg hx hk0 hnm hF G E
  subst hg
  have hk : 1 ≤ kn κ := Nat.le_of_eq hk0.symm
  show X κ 5 0 [some (.ref 4)] [] (wd D cF σ)
  refine x_aload0 G d_Ru_init_0 ?_
  refine f_callI (b_Nb_init_4 (kg κ) (d - 1) (by omega) σ hz) hF G d_Ru_init_1 lk_Ru_3 ⟨by decide, by decide⟩ (by omega) rfl (Nat.le_of_ble_eq_true rfl) ⟨by decide, by rw [hx]; decide⟩ (fun hF => ?_)
  exact f_vret hF E G d_Ru_init_4 hx.symm rfl (by decide) (by decide +kernel)
theorem b_Ru_init_6 (g : CX) (d : Nat) (hd : 2 ≤ d) (σ : Sg) (hz : ∀ j, σ 6 j = 0) : RunF g d Ru_init [.ref 6] 6 7 σ 7 σ := by
  refine RunF.of 0 (by decide +kernel) rfl (by decide) ?_
  intro κ D hg hx hk0 hnm hF G E
  subst hg
  have hk : 1 ≤ kn κ := Nat.le_of_eq hk0.symm
  show X κ 7 0 [some (.ref 6)] [] (wd D cF σ)
  refine x_aload0 G d_Ru_init_0 ?_
  refine f_callI (b_Nb_init_6 (kg κ) (d - 1) (by omega) σ hz) hF G d_Ru_init_1 lk_Ru_3 ⟨by decide, by decide⟩ (by omega) rfl (Nat.le_of_ble_eq_true rfl) ⟨by decide, by rw [hx]; decide⟩ (fun hF => ?_)
  exact f_vret hF E G d_Ru_init_4 hx.symm rfl (by decide) (by decide +kernel)
theorem b_Ol_init_5 (g : CX) (d : Nat) (hd : 3 ≤ d) (σ : Sg) (hz : ∀ j, σ 5 j = 0) : RunF g d Ol_init [.ref 5] 5 6 σ 6 σ := by
  refine RunF.of 0 (by decide +kernel) rfl (by decide) ?_
  intro κ D hg hx hk0 hnm hF G E
  subst hg
  have hk : 1 ≤ kn κ := Nat.le_of_eq hk0.symm
  show X κ 6 0 [some (.ref 5)] [] (wd D cF σ)
  refine x_aload0 G d_Ol_init_0 ?_
  refine f_callI (b_La_init_5 (kg κ) (d - 1) (by omega) σ hz) hF G d_Ol_init_1 lk_Ol_3 ⟨by decide, by decide⟩ (by omega) rfl (Nat.le_of_ble_eq_true rfl) ⟨by decide, by rw [hx]; decide⟩ (fun hF => ?_)
  exact f_vret hF E G d_Ol_init_4 hx.symm rfl (by decide) (by decide +kernel)
theorem b_Ch_init_6 (g : CX) (d : Nat) (hd : 3 ≤ d) (σ : Sg) (hz : ∀ j, σ 6 j = 0) : RunF g d Ch_init [.ref 6] 6 7 σ 7 σ := by
  refine RunF.of 0 (by decide +kernel) rfl (by decide) ?_
  intro κ D hg hx hk0 hnm hF G E
  subst hg
  have hk : 1 ≤ kn κ := Nat.le_of_eq hk0.symm
  show X κ 7 0 [some (.ref 6)] [] (wd D cF σ)
  refine x_aload0 G d_Ch_init_0 ?_
  refine f_callI (b_Ru_init_6 (kg κ) (d - 1) (by omega) σ hz) hF G d_Ch_init_1 lk_Ch_3 ⟨by decide, by decide⟩ (by omega) rfl (Nat.le_of_ble_eq_true rfl) ⟨by decide, by rw [hx]; decide⟩ (fun hF => ?_)
  exact f_vret hF E G d_Ch_init_4 hx.symm rfl (by decide) (by decide +kernel)
theorem b_He_init_7 (g : CX) (d : Nat) (hd : 2 ≤ d) (σ : Sg) (hz : ∀ j, σ 7 j = 0) : RunF g d He_init [.ref 7] 7 8 σ 8 σ := by
  refine RunF.of 0 (by decide +kernel) rfl (by decide) ?_
  intro κ D hg hx hk0 hnm hF G E
  subst hg
  have hk : 1 ≤ kn κ := Nat.le_of_eq hk0.symm
  show X κ 8 0 [some (.ref 7)] [] (wd D cF σ)
  refine x_aload0 G d_He_init_0 ?_
  refine f_callI (b_Nb_init_7 (kg κ) (d - 1) (by omega) σ hz) hF G d_He_init_1 lk_He_3 ⟨by decide, by decide⟩ (by omega) rfl (Nat.le_of_ble_eq_true rfl) ⟨by decide, by rw [hx]; decide⟩ (fun hF => ?_)
  exact f_vret hF E G d_He_init_4 hx.symm rfl (by decide) (by decide +kernel)
theorem b_Lw_init_8 (g : CX) (d : Nat) (hd : 1 ≤ d) (σ : Sg) (hz : ∀ j, σ 8 j = 0) : RunF g d Lw_init [.ref 8] 8 9 σ 28 σ := by
  refine RunF.of 0 (by decide +kernel) rfl (by decide) ?_
  intro κ D hg hx hk0 hnm hF G E
  subst hg
  have hk : 1 ≤ kn κ := Nat.le_of_eq hk0.symm
  show X κ 9 0 [some (.ref 8)] [] (wd D cF σ)
  refine x_aload0 G d_Lw_init_0 ?_
  refine x_obj G d_Lw_init_1 k_78 k_28 k_29 (by omega) (Nat.le_of_ble_eq_true rfl) (by decide) ?_
  refine x_aload0 G d_Lw_init_4 ?_
  refine x_bipush (v := nI 14) G d_Lw_init_5 rfl ?_
  refine x_bipush (v := nI 96) G d_Lw_init_7 rfl ?_
  refine f_multi (N := 14) (M := 96) hF G d_Lw_init_9 rfl (by decide +kernel) (by decide) (by decide) k_79 k_99 (by rw [hx]; decide) (by decide) (by decide +kernel) (fun hF => ?_)
  refine f_putr hF G d_Lw_init_13 fl_Lw_11 rfl ⟨by decide, by decide⟩ rfl (by first | exact Or.inl rfl | exact Or.inr ⟨rfl, hnm, rfl⟩) (by first | exact Or.inl ⟨_, rfl⟩ | exact Or.inr ⟨_, rfl⟩) (fun hF => ?_)
  refine x_aload0 G d_Lw_init_16 ?_
  refine x_bipush (v := nI 14) G d_Lw_init_17 rfl ?_
  refine f_newa (ty := 0) (len := 14) hF G d_Lw_init_19 ⟨rfl, by decide⟩ rfl k_99 rfl ⟨by decide, by decide⟩ (by rw [hx]; decide) (fun hF => ?_)
  refine f_putr hF G d_Lw_init_21 fl_Lw_16 rfl ⟨by decide, by decide⟩ rfl (by first | exact Or.inl rfl | exact Or.inr ⟨rfl, hnm, rfl⟩) (by first | exact Or.inl ⟨_, rfl⟩ | exact Or.inr ⟨_, rfl⟩) (fun hF => ?_)
  refine x_aload0 G d_Lw_init_24 ?_
  refine x_bipush (v := nI 14) G d_Lw_init_25 rfl ?_
  refine f_newa (ty := 0) (len := 14) hF G d_Lw_init_27 ⟨rfl, by decide⟩ rfl k_99 rfl ⟨by decide, by decide⟩ (by rw [hx]; decide) (fun hF => ?_)
  refine f_putr hF G d_Lw_init_29 fl_Lw_20 rfl ⟨by decide, by decide⟩ rfl (by first | exact Or.inl rfl | exact Or.inr ⟨rfl, hnm, rfl⟩) (by first | exact Or.inl ⟨_, rfl⟩ | exact Or.inr ⟨_, rfl⟩) (fun hF => ?_)
  refine x_aload0 G d_Lw_init_32 ?_
  refine x_bipush (v := nI 14) G d_Lw_init_33 rfl ?_
  refine f_newa (ty := 0) (len := 14) hF G d_Lw_init_35 ⟨rfl, by decide⟩ rfl k_99 rfl ⟨by decide, by decide⟩ (by rw [hx]; decide) (fun hF => ?_)
  refine f_putr hF G d_Lw_init_37 fl_Lw_23 rfl ⟨by decide, by decide⟩ rfl (by first | exact Or.inl rfl | exact Or.inr ⟨rfl, hnm, rfl⟩) (by first | exact Or.inl ⟨_, rfl⟩ | exact Or.inr ⟨_, rfl⟩) (fun hF => ?_)
  refine x_aload0 G d_Lw_init_40 ?_
  refine x_bipush (v := nI 96) G d_Lw_init_41 rfl ?_
  refine f_newa (ty := 0) (len := 96) hF G d_Lw_init_43 ⟨rfl, by decide⟩ rfl k_99 rfl ⟨by decide, by decide⟩ (by rw [hx]; decide) (fun hF => ?_)
  refine f_putr hF G d_Lw_init_45 fl_Lw_26 rfl ⟨by decide, by decide⟩ rfl (by first | exact Or.inl rfl | exact Or.inr ⟨rfl, hnm, rfl⟩) (by first | exact Or.inl ⟨_, rfl⟩ | exact Or.inr ⟨_, rfl⟩) (fun hF => ?_)
  exact f_vret hF E G d_Lw_init_48 hx.symm rfl (by decide) (by decide +kernel)
def sgW28 (σ : Sg) : Sg := updS (updS (updS (updS (updS (updS (updS (updS (updS (updS (updS (updS (updS (updS (updS (updS (updS (updS (updS (updS (updS (updS (updS (updS (updS (updS (updS (updS (updS (updS (updS (updS σ 28 9 (nI 10)) 28 12 (nI 1)) 37 0 (nI 8)) 38 0 (nI 10)) 39 0 (nI 1)) 37 1 (nI 8)) 38 1 (nI 10)) 39 1 (nI 1)) 37 2 (nI 8)) 38 2 (nI 10)) 39 2 (nI 1)) 37 3 (nI 8)) 38 3 (nI 10)) 39 3 (nI 1)) 37 4 (nI 8)) 38 4 (nI 10)) 39 4 (nI 1)) 37 5 (nI 8)) 38 5 (nI 10)) 39 5 (nI 1)) 37 6 (nI 8)) 38 6 (nI 10)) 39 6 (nI 1)) 37 7 (nI 8)) 38 7 (nI 10)) 39 7 (nI 1)) 37 8 (nI 8)) 38 8 (nI 10)) 39 8 (nI 1)) 42 0 (-1)) 42 1 (-1)) 42 2 (-1)
theorem b_Wo_init_28 (g : CX) (d : Nat) (hd : 1 ≤ d) (σ : Sg) (hz : ∀ j, σ 28 j = 0) : RunF g d Wo_init [.ref 28, .ref 1, .ref 8] 28 29 σ 43 (sgW28 σ) := by
  refine RunF.of 1 (by decide +kernel) rfl (by decide) ?_
  intro κ D hg hx hk0 hnm hF G E
  subst hg
  have hk : 4 ≤ kn κ := Nat.le_of_eq hk0.symm
  show X κ 29 0 [some (.ref 28), some (.ref 1), some (.ref 8), none] [] (wd D cF σ)
  refine x_aload0 G d_Wo_init_0 ?_
  refine x_obj G d_Wo_init_1 k_105 k_28 k_29 (by omega) (Nat.le_of_ble_eq_true rfl) (by decide) ?_
  refine x_aload0 G d_Wo_init_4 ?_
  refine x_bipush (v := nI 6) G d_Wo_init_5 rfl ?_
  refine x_bipush (v := nI 8) G d_Wo_init_7 rfl ?_
  refine f_multi (N := 6) (M := 8) hF G d_Wo_init_9 rfl (by decide +kernel) (by decide) (by decide) k_106 k_99 (by rw [hx]; decide) (by decide) (by decide +kernel) (fun hF => ?_)
  refine f_putr hF G d_Wo_init_13 fl_Wo_11 rfl ⟨by decide, by decide⟩ rfl (by first | exact Or.inl rfl | exact Or.inr ⟨rfl, hnm, rfl⟩) (by first | exact Or.inl ⟨_, rfl⟩ | exact Or.inr ⟨_, rfl⟩) (fun hF => ?_)
  refine x_aload0 G d_Wo_init_16 ?_
  refine x_iconst (v := nI 3) G d_Wo_init_17 rfl ?_
  refine x_bipush (v := nI 9) G d_Wo_init_18 rfl ?_
  refine f_multi (N := 3) (M := 9) hF G d_Wo_init_20 rfl (by decide +kernel) (by decide) (by decide) k_106 k_99 (by rw [hx]; decide) (by decide) (by decide +kernel) (fun hF => ?_)
  refine f_putr hF G d_Wo_init_24 fl_Wo_16 rfl ⟨by decide, by decide⟩ rfl (by first | exact Or.inl rfl | exact Or.inr ⟨rfl, hnm, rfl⟩) (by first | exact Or.inl ⟨_, rfl⟩ | exact Or.inr ⟨_, rfl⟩) (fun hF => ?_)
  refine x_aload0 G d_Wo_init_27 ?_
  refine x_bipush (v := nI 8) G d_Wo_init_28 rfl ?_
  refine f_newa (ty := 0) (len := 8) hF G d_Wo_init_30 ⟨rfl, by decide⟩ rfl k_99 rfl ⟨by decide, by decide⟩ (by rw [hx]; decide) (fun hF => ?_)
  refine f_putr hF G d_Wo_init_32 fl_Wo_19 rfl ⟨by decide, by decide⟩ rfl (by first | exact Or.inl rfl | exact Or.inr ⟨rfl, hnm, rfl⟩) (by first | exact Or.inl ⟨_, rfl⟩ | exact Or.inr ⟨_, rfl⟩) (fun hF => ?_)
  refine x_aload0 G d_Wo_init_35 ?_
  refine x_bipush (v := nI 8) G d_Wo_init_36 rfl ?_
  refine f_newa (ty := 0) (len := 8) hF G d_Wo_init_38 ⟨rfl, by decide⟩ rfl k_99 rfl ⟨by decide, by decide⟩ (by rw [hx]; decide) (fun hF => ?_)
  refine f_putr hF G d_Wo_init_40 fl_Wo_23 rfl ⟨by decide, by decide⟩ rfl (by first | exact Or.inl rfl | exact Or.inr ⟨rfl, hnm, rfl⟩) (by first | exact Or.inl ⟨_, rfl⟩ | exact Or.inr ⟨_, rfl⟩) (fun hF => ?_)
  refine x_aload0 G d_Wo_init_43 ?_
  refine x_iconst (v := nI 3) G d_Wo_init_44 rfl ?_
  refine f_newa (ty := 0) (len := 3) hF G d_Wo_init_45 ⟨rfl, by decide⟩ rfl k_99 rfl ⟨by decide, by decide⟩ (by rw [hx]; decide) (fun hF => ?_)
  refine f_putr hF G d_Wo_init_47 fl_Wo_26 rfl ⟨by decide, by decide⟩ rfl (by first | exact Or.inl rfl | exact Or.inr ⟨rfl, hnm, rfl⟩) (by first | exact Or.inl ⟨_, rfl⟩ | exact Or.inr ⟨_, rfl⟩) (fun hF => ?_)
  refine x_aload0 G d_Wo_init_50 ?_
  refine x_iconst (v := nI 0) G d_Wo_init_51 rfl ?_
  refine f_put0 G d_Wo_init_52 fl_Wo_29 rfl ⟨by decide, by decide⟩ rfl rfl rfl rfl (hz 7) ?_
  refine x_aload0 G d_Wo_init_55 ?_
  refine x_iconst (v := nI 0) G d_Wo_init_56 rfl ?_
  refine f_put0 G d_Wo_init_57 fl_Wo_33 rfl ⟨by decide, by decide⟩ rfl rfl rfl rfl (hz 8) ?_
  refine x_aload0 G d_Wo_init_60 ?_
  refine x_bipush (v := nI 10) G d_Wo_init_61 rfl ?_
  refine f_puti hF G d_Wo_init_63 fl_Wo_36 rfl ⟨by decide, by decide⟩ rfl rfl rfl rfl (fun hF => ?_)
  refine x_aload0 G d_Wo_init_66 ?_
  refine x_iconst (v := nI 0) G d_Wo_init_67 rfl ?_
  refine f_put0 G d_Wo_init_68 fl_Wo_39 rfl ⟨by decide, by decide⟩ rfl rfl rfl rfl (by simp [updS, hz 10]) ?_
  refine x_aload0 G d_Wo_init_71 ?_
  refine x_iconst (v := nI 0) G d_Wo_init_72 rfl ?_
  refine f_put0 G d_Wo_init_73 fl_Wo_42 rfl ⟨by decide, by decide⟩ rfl rfl rfl rfl (by simp [updS, hz 11]) ?_
  refine x_aload0 G d_Wo_init_76 ?_
  refine x_iconst (v := nI 1) G d_Wo_init_77 rfl ?_
  refine f_puti hF G d_Wo_init_78 fl_Wo_45 rfl ⟨by decide, by decide⟩ rfl rfl rfl rfl (fun hF => ?_)
  refine x_aload0 G d_Wo_init_81 ?_
  refine x_iconst (v := nI 0) G d_Wo_init_82 rfl ?_
  refine f_put0 G d_Wo_init_83 fl_Wo_48 rfl ⟨by decide, by decide⟩ rfl rfl rfl rfl (by simp [updS, hz 13]) ?_
  refine x_aload0 G d_Wo_init_86 ?_
  refine x_aload1 G d_Wo_init_87 ?_
  refine f_putr hF G d_Wo_init_88 fl_Wo_51 rfl ⟨by decide, by decide⟩ rfl (by first | exact Or.inl rfl | exact Or.inr ⟨rfl, hnm, rfl⟩) (by first | exact Or.inl ⟨_, rfl⟩ | exact Or.inr ⟨_, rfl⟩) (fun hF => ?_)
  refine x_aload0 G d_Wo_init_91 ?_
  refine x_aload2 G d_Wo_init_92 ?_
  refine f_putr hF G d_Wo_init_93 fl_Wo_55 rfl ⟨by decide, by decide⟩ rfl (by first | exact Or.inl rfl | exact Or.inr ⟨rfl, hnm, rfl⟩) (by first | exact Or.inl ⟨_, rfl⟩ | exact Or.inr ⟨_, rfl⟩) (fun hF => ?_)
  refine x_iconst (v := nI 0) G d_Wo_init_96 rfl ?_
  refine x_istore3 G d_Wo_init_97 rfl hk ?_
  refine x_iload3 G d_Wo_init_98 ?_
  refine x_bipush (v := nI 9) G d_Wo_init_99 rfl ?_
  refine x_icmp_ge G d_Wo_init_101 (fun q => absurd q (by decide +kernel)) (fun _ => ?_)
  refine x_aload0 G d_Wo_init_104 ?_
  refine f_getr G d_Wo_init_105 fl_Wo_16 rfl ⟨by decide, by decide⟩ rfl rfl ?_
  refine x_iconst (v := nI 0) G d_Wo_init_108 rfl ?_
  refine f_aald 0 G d_Wo_init_109 rfl (by decide) ⟨by decide, by decide⟩ rfl ⟨by decide, by decide⟩ rfl rfl ?_
  refine x_iload3 G d_Wo_init_110 ?_
  refine x_bipush (v := nI 8) G d_Wo_init_111 rfl ?_
  refine f_iast 0 hF G d_Wo_init_113 rfl ⟨by decide, by decide⟩ rfl ⟨by decide, by decide⟩ (fun hF => ?_)
  refine x_aload0 G d_Wo_init_114 ?_
  refine f_getr G d_Wo_init_115 fl_Wo_16 rfl ⟨by decide, by decide⟩ rfl rfl ?_
  refine x_iconst (v := nI 1) G d_Wo_init_118 rfl ?_
  refine f_aald 1 G d_Wo_init_119 rfl (by decide) ⟨by decide, by decide⟩ rfl ⟨by decide, by decide⟩ rfl rfl ?_
  refine x_iload3 G d_Wo_init_120 ?_
  refine x_bipush (v := nI 10) G d_Wo_init_121 rfl ?_
  refine f_iast 0 hF G d_Wo_init_123 rfl ⟨by decide, by decide⟩ rfl ⟨by decide, by decide⟩ (fun hF => ?_)
  refine x_aload0 G d_Wo_init_124 ?_
  refine f_getr G d_Wo_init_125 fl_Wo_16 rfl ⟨by decide, by decide⟩ rfl rfl ?_
  refine x_iconst (v := nI 2) G d_Wo_init_128 rfl ?_
  refine f_aald 2 G d_Wo_init_129 rfl (by decide) ⟨by decide, by decide⟩ rfl ⟨by decide, by decide⟩ rfl rfl ?_
  refine x_iload3 G d_Wo_init_130 ?_
  refine x_iconst (v := nI 1) G d_Wo_init_131 rfl ?_
  refine f_iast 0 hF G d_Wo_init_132 rfl ⟨by decide, by decide⟩ rfl ⟨by decide, by decide⟩ (fun hF => ?_)
  refine x_iinc3 (v := nI 1) G d_Wo_init_133 rfl hk rfl ?_
  refine x_goto G d_Wo_init_136 ?_
  refine x_iload3 G d_Wo_init_98 ?_
  refine x_bipush (v := nI 9) G d_Wo_init_99 rfl ?_
  refine x_icmp_ge G d_Wo_init_101 (fun q => absurd q (by decide +kernel)) (fun _ => ?_)
  refine x_aload0 G d_Wo_init_104 ?_
  refine f_getr G d_Wo_init_105 fl_Wo_16 rfl ⟨by decide, by decide⟩ rfl rfl ?_
  refine x_iconst (v := nI 0) G d_Wo_init_108 rfl ?_
  refine f_aald 0 G d_Wo_init_109 rfl (by decide) ⟨by decide, by decide⟩ rfl ⟨by decide, by decide⟩ rfl rfl ?_
  refine x_iload3 G d_Wo_init_110 ?_
  refine x_bipush (v := nI 8) G d_Wo_init_111 rfl ?_
  refine f_iast 1 hF G d_Wo_init_113 rfl ⟨by decide, by decide⟩ rfl ⟨by decide, by decide⟩ (fun hF => ?_)
  refine x_aload0 G d_Wo_init_114 ?_
  refine f_getr G d_Wo_init_115 fl_Wo_16 rfl ⟨by decide, by decide⟩ rfl rfl ?_
  refine x_iconst (v := nI 1) G d_Wo_init_118 rfl ?_
  refine f_aald 1 G d_Wo_init_119 rfl (by decide) ⟨by decide, by decide⟩ rfl ⟨by decide, by decide⟩ rfl rfl ?_
  refine x_iload3 G d_Wo_init_120 ?_
  refine x_bipush (v := nI 10) G d_Wo_init_121 rfl ?_
  refine f_iast 1 hF G d_Wo_init_123 rfl ⟨by decide, by decide⟩ rfl ⟨by decide, by decide⟩ (fun hF => ?_)
  refine x_aload0 G d_Wo_init_124 ?_
  refine f_getr G d_Wo_init_125 fl_Wo_16 rfl ⟨by decide, by decide⟩ rfl rfl ?_
  refine x_iconst (v := nI 2) G d_Wo_init_128 rfl ?_
  refine f_aald 2 G d_Wo_init_129 rfl (by decide) ⟨by decide, by decide⟩ rfl ⟨by decide, by decide⟩ rfl rfl ?_
  refine x_iload3 G d_Wo_init_130 ?_
  refine x_iconst (v := nI 1) G d_Wo_init_131 rfl ?_
  refine f_iast 1 hF G d_Wo_init_132 rfl ⟨by decide, by decide⟩ rfl ⟨by decide, by decide⟩ (fun hF => ?_)
  refine x_iinc3 (v := nI 2) G d_Wo_init_133 rfl hk rfl ?_
  refine x_goto G d_Wo_init_136 ?_
  refine x_iload3 G d_Wo_init_98 ?_
  refine x_bipush (v := nI 9) G d_Wo_init_99 rfl ?_
  refine x_icmp_ge G d_Wo_init_101 (fun q => absurd q (by decide +kernel)) (fun _ => ?_)
  refine x_aload0 G d_Wo_init_104 ?_
  refine f_getr G d_Wo_init_105 fl_Wo_16 rfl ⟨by decide, by decide⟩ rfl rfl ?_
  refine x_iconst (v := nI 0) G d_Wo_init_108 rfl ?_
  refine f_aald 0 G d_Wo_init_109 rfl (by decide) ⟨by decide, by decide⟩ rfl ⟨by decide, by decide⟩ rfl rfl ?_
  refine x_iload3 G d_Wo_init_110 ?_
  refine x_bipush (v := nI 8) G d_Wo_init_111 rfl ?_
  refine f_iast 2 hF G d_Wo_init_113 rfl ⟨by decide, by decide⟩ rfl ⟨by decide, by decide⟩ (fun hF => ?_)
  refine x_aload0 G d_Wo_init_114 ?_
  refine f_getr G d_Wo_init_115 fl_Wo_16 rfl ⟨by decide, by decide⟩ rfl rfl ?_
  refine x_iconst (v := nI 1) G d_Wo_init_118 rfl ?_
  refine f_aald 1 G d_Wo_init_119 rfl (by decide) ⟨by decide, by decide⟩ rfl ⟨by decide, by decide⟩ rfl rfl ?_
  refine x_iload3 G d_Wo_init_120 ?_
  refine x_bipush (v := nI 10) G d_Wo_init_121 rfl ?_
  refine f_iast 2 hF G d_Wo_init_123 rfl ⟨by decide, by decide⟩ rfl ⟨by decide, by decide⟩ (fun hF => ?_)
  refine x_aload0 G d_Wo_init_124 ?_
  refine f_getr G d_Wo_init_125 fl_Wo_16 rfl ⟨by decide, by decide⟩ rfl rfl ?_
  refine x_iconst (v := nI 2) G d_Wo_init_128 rfl ?_
  refine f_aald 2 G d_Wo_init_129 rfl (by decide) ⟨by decide, by decide⟩ rfl ⟨by decide, by decide⟩ rfl rfl ?_
  refine x_iload3 G d_Wo_init_130 ?_
  refine x_iconst (v := nI 1) G d_Wo_init_131 rfl ?_
  refine f_iast 2 hF G d_Wo_init_132 rfl ⟨by decide, by decide⟩ rfl ⟨by decide, by decide⟩ (fun hF => ?_)
  refine x_iinc3 (v := nI 3) G d_Wo_init_133 rfl hk rfl ?_
  refine x_goto G d_Wo_init_136 ?_
  refine x_iload3 G d_Wo_init_98 ?_
  refine x_bipush (v := nI 9) G d_Wo_init_99 rfl ?_
  refine x_icmp_ge G d_Wo_init_101 (fun q => absurd q (by decide +kernel)) (fun _ => ?_)
  refine x_aload0 G d_Wo_init_104 ?_
  refine f_getr G d_Wo_init_105 fl_Wo_16 rfl ⟨by decide, by decide⟩ rfl rfl ?_
  refine x_iconst (v := nI 0) G d_Wo_init_108 rfl ?_
  refine f_aald 0 G d_Wo_init_109 rfl (by decide) ⟨by decide, by decide⟩ rfl ⟨by decide, by decide⟩ rfl rfl ?_
  refine x_iload3 G d_Wo_init_110 ?_
  refine x_bipush (v := nI 8) G d_Wo_init_111 rfl ?_
  refine f_iast 3 hF G d_Wo_init_113 rfl ⟨by decide, by decide⟩ rfl ⟨by decide, by decide⟩ (fun hF => ?_)
  refine x_aload0 G d_Wo_init_114 ?_
  refine f_getr G d_Wo_init_115 fl_Wo_16 rfl ⟨by decide, by decide⟩ rfl rfl ?_
  refine x_iconst (v := nI 1) G d_Wo_init_118 rfl ?_
  refine f_aald 1 G d_Wo_init_119 rfl (by decide) ⟨by decide, by decide⟩ rfl ⟨by decide, by decide⟩ rfl rfl ?_
  refine x_iload3 G d_Wo_init_120 ?_
  refine x_bipush (v := nI 10) G d_Wo_init_121 rfl ?_
  refine f_iast 3 hF G d_Wo_init_123 rfl ⟨by decide, by decide⟩ rfl ⟨by decide, by decide⟩ (fun hF => ?_)
  refine x_aload0 G d_Wo_init_124 ?_
  refine f_getr G d_Wo_init_125 fl_Wo_16 rfl ⟨by decide, by decide⟩ rfl rfl ?_
  refine x_iconst (v := nI 2) G d_Wo_init_128 rfl ?_
  refine f_aald 2 G d_Wo_init_129 rfl (by decide) ⟨by decide, by decide⟩ rfl ⟨by decide, by decide⟩ rfl rfl ?_
  refine x_iload3 G d_Wo_init_130 ?_
  refine x_iconst (v := nI 1) G d_Wo_init_131 rfl ?_
  refine f_iast 3 hF G d_Wo_init_132 rfl ⟨by decide, by decide⟩ rfl ⟨by decide, by decide⟩ (fun hF => ?_)
  refine x_iinc3 (v := nI 4) G d_Wo_init_133 rfl hk rfl ?_
  refine x_goto G d_Wo_init_136 ?_
  refine x_iload3 G d_Wo_init_98 ?_
  refine x_bipush (v := nI 9) G d_Wo_init_99 rfl ?_
  refine x_icmp_ge G d_Wo_init_101 (fun q => absurd q (by decide +kernel)) (fun _ => ?_)
  refine x_aload0 G d_Wo_init_104 ?_
  refine f_getr G d_Wo_init_105 fl_Wo_16 rfl ⟨by decide, by decide⟩ rfl rfl ?_
  refine x_iconst (v := nI 0) G d_Wo_init_108 rfl ?_
  refine f_aald 0 G d_Wo_init_109 rfl (by decide) ⟨by decide, by decide⟩ rfl ⟨by decide, by decide⟩ rfl rfl ?_
  refine x_iload3 G d_Wo_init_110 ?_
  refine x_bipush (v := nI 8) G d_Wo_init_111 rfl ?_
  refine f_iast 4 hF G d_Wo_init_113 rfl ⟨by decide, by decide⟩ rfl ⟨by decide, by decide⟩ (fun hF => ?_)
  refine x_aload0 G d_Wo_init_114 ?_
  refine f_getr G d_Wo_init_115 fl_Wo_16 rfl ⟨by decide, by decide⟩ rfl rfl ?_
  refine x_iconst (v := nI 1) G d_Wo_init_118 rfl ?_
  refine f_aald 1 G d_Wo_init_119 rfl (by decide) ⟨by decide, by decide⟩ rfl ⟨by decide, by decide⟩ rfl rfl ?_
  refine x_iload3 G d_Wo_init_120 ?_
  refine x_bipush (v := nI 10) G d_Wo_init_121 rfl ?_
  refine f_iast 4 hF G d_Wo_init_123 rfl ⟨by decide, by decide⟩ rfl ⟨by decide, by decide⟩ (fun hF => ?_)
  refine x_aload0 G d_Wo_init_124 ?_
  refine f_getr G d_Wo_init_125 fl_Wo_16 rfl ⟨by decide, by decide⟩ rfl rfl ?_
  refine x_iconst (v := nI 2) G d_Wo_init_128 rfl ?_
  refine f_aald 2 G d_Wo_init_129 rfl (by decide) ⟨by decide, by decide⟩ rfl ⟨by decide, by decide⟩ rfl rfl ?_
  refine x_iload3 G d_Wo_init_130 ?_
  refine x_iconst (v := nI 1) G d_Wo_init_131 rfl ?_
  refine f_iast 4 hF G d_Wo_init_132 rfl ⟨by decide, by decide⟩ rfl ⟨by decide, by decide⟩ (fun hF => ?_)
  refine x_iinc3 (v := nI 5) G d_Wo_init_133 rfl hk rfl ?_
  refine x_goto G d_Wo_init_136 ?_
  refine x_iload3 G d_Wo_init_98 ?_
  refine x_bipush (v := nI 9) G d_Wo_init_99 rfl ?_
  refine x_icmp_ge G d_Wo_init_101 (fun q => absurd q (by decide +kernel)) (fun _ => ?_)
  refine x_aload0 G d_Wo_init_104 ?_
  refine f_getr G d_Wo_init_105 fl_Wo_16 rfl ⟨by decide, by decide⟩ rfl rfl ?_
  refine x_iconst (v := nI 0) G d_Wo_init_108 rfl ?_
  refine f_aald 0 G d_Wo_init_109 rfl (by decide) ⟨by decide, by decide⟩ rfl ⟨by decide, by decide⟩ rfl rfl ?_
  refine x_iload3 G d_Wo_init_110 ?_
  refine x_bipush (v := nI 8) G d_Wo_init_111 rfl ?_
  refine f_iast 5 hF G d_Wo_init_113 rfl ⟨by decide, by decide⟩ rfl ⟨by decide, by decide⟩ (fun hF => ?_)
  refine x_aload0 G d_Wo_init_114 ?_
  refine f_getr G d_Wo_init_115 fl_Wo_16 rfl ⟨by decide, by decide⟩ rfl rfl ?_
  refine x_iconst (v := nI 1) G d_Wo_init_118 rfl ?_
  refine f_aald 1 G d_Wo_init_119 rfl (by decide) ⟨by decide, by decide⟩ rfl ⟨by decide, by decide⟩ rfl rfl ?_
  refine x_iload3 G d_Wo_init_120 ?_
  refine x_bipush (v := nI 10) G d_Wo_init_121 rfl ?_
  refine f_iast 5 hF G d_Wo_init_123 rfl ⟨by decide, by decide⟩ rfl ⟨by decide, by decide⟩ (fun hF => ?_)
  refine x_aload0 G d_Wo_init_124 ?_
  refine f_getr G d_Wo_init_125 fl_Wo_16 rfl ⟨by decide, by decide⟩ rfl rfl ?_
  refine x_iconst (v := nI 2) G d_Wo_init_128 rfl ?_
  refine f_aald 2 G d_Wo_init_129 rfl (by decide) ⟨by decide, by decide⟩ rfl ⟨by decide, by decide⟩ rfl rfl ?_
  refine x_iload3 G d_Wo_init_130 ?_
  refine x_iconst (v := nI 1) G d_Wo_init_131 rfl ?_
  refine f_iast 5 hF G d_Wo_init_132 rfl ⟨by decide, by decide⟩ rfl ⟨by decide, by decide⟩ (fun hF => ?_)
  refine x_iinc3 (v := nI 6) G d_Wo_init_133 rfl hk rfl ?_
  refine x_goto G d_Wo_init_136 ?_
  refine x_iload3 G d_Wo_init_98 ?_
  refine x_bipush (v := nI 9) G d_Wo_init_99 rfl ?_
  refine x_icmp_ge G d_Wo_init_101 (fun q => absurd q (by decide +kernel)) (fun _ => ?_)
  refine x_aload0 G d_Wo_init_104 ?_
  refine f_getr G d_Wo_init_105 fl_Wo_16 rfl ⟨by decide, by decide⟩ rfl rfl ?_
  refine x_iconst (v := nI 0) G d_Wo_init_108 rfl ?_
  refine f_aald 0 G d_Wo_init_109 rfl (by decide) ⟨by decide, by decide⟩ rfl ⟨by decide, by decide⟩ rfl rfl ?_
  refine x_iload3 G d_Wo_init_110 ?_
  refine x_bipush (v := nI 8) G d_Wo_init_111 rfl ?_
  refine f_iast 6 hF G d_Wo_init_113 rfl ⟨by decide, by decide⟩ rfl ⟨by decide, by decide⟩ (fun hF => ?_)
  refine x_aload0 G d_Wo_init_114 ?_
  refine f_getr G d_Wo_init_115 fl_Wo_16 rfl ⟨by decide, by decide⟩ rfl rfl ?_
  refine x_iconst (v := nI 1) G d_Wo_init_118 rfl ?_
  refine f_aald 1 G d_Wo_init_119 rfl (by decide) ⟨by decide, by decide⟩ rfl ⟨by decide, by decide⟩ rfl rfl ?_
  refine x_iload3 G d_Wo_init_120 ?_
  refine x_bipush (v := nI 10) G d_Wo_init_121 rfl ?_
  refine f_iast 6 hF G d_Wo_init_123 rfl ⟨by decide, by decide⟩ rfl ⟨by decide, by decide⟩ (fun hF => ?_)
  refine x_aload0 G d_Wo_init_124 ?_
  refine f_getr G d_Wo_init_125 fl_Wo_16 rfl ⟨by decide, by decide⟩ rfl rfl ?_
  refine x_iconst (v := nI 2) G d_Wo_init_128 rfl ?_
  refine f_aald 2 G d_Wo_init_129 rfl (by decide) ⟨by decide, by decide⟩ rfl ⟨by decide, by decide⟩ rfl rfl ?_
  refine x_iload3 G d_Wo_init_130 ?_
  refine x_iconst (v := nI 1) G d_Wo_init_131 rfl ?_
  refine f_iast 6 hF G d_Wo_init_132 rfl ⟨by decide, by decide⟩ rfl ⟨by decide, by decide⟩ (fun hF => ?_)
  refine x_iinc3 (v := nI 7) G d_Wo_init_133 rfl hk rfl ?_
  refine x_goto G d_Wo_init_136 ?_
  refine x_iload3 G d_Wo_init_98 ?_
  refine x_bipush (v := nI 9) G d_Wo_init_99 rfl ?_
  refine x_icmp_ge G d_Wo_init_101 (fun q => absurd q (by decide +kernel)) (fun _ => ?_)
  refine x_aload0 G d_Wo_init_104 ?_
  refine f_getr G d_Wo_init_105 fl_Wo_16 rfl ⟨by decide, by decide⟩ rfl rfl ?_
  refine x_iconst (v := nI 0) G d_Wo_init_108 rfl ?_
  refine f_aald 0 G d_Wo_init_109 rfl (by decide) ⟨by decide, by decide⟩ rfl ⟨by decide, by decide⟩ rfl rfl ?_
  refine x_iload3 G d_Wo_init_110 ?_
  refine x_bipush (v := nI 8) G d_Wo_init_111 rfl ?_
  refine f_iast 7 hF G d_Wo_init_113 rfl ⟨by decide, by decide⟩ rfl ⟨by decide, by decide⟩ (fun hF => ?_)
  refine x_aload0 G d_Wo_init_114 ?_
  refine f_getr G d_Wo_init_115 fl_Wo_16 rfl ⟨by decide, by decide⟩ rfl rfl ?_
  refine x_iconst (v := nI 1) G d_Wo_init_118 rfl ?_
  refine f_aald 1 G d_Wo_init_119 rfl (by decide) ⟨by decide, by decide⟩ rfl ⟨by decide, by decide⟩ rfl rfl ?_
  refine x_iload3 G d_Wo_init_120 ?_
  refine x_bipush (v := nI 10) G d_Wo_init_121 rfl ?_
  refine f_iast 7 hF G d_Wo_init_123 rfl ⟨by decide, by decide⟩ rfl ⟨by decide, by decide⟩ (fun hF => ?_)
  refine x_aload0 G d_Wo_init_124 ?_
  refine f_getr G d_Wo_init_125 fl_Wo_16 rfl ⟨by decide, by decide⟩ rfl rfl ?_
  refine x_iconst (v := nI 2) G d_Wo_init_128 rfl ?_
  refine f_aald 2 G d_Wo_init_129 rfl (by decide) ⟨by decide, by decide⟩ rfl ⟨by decide, by decide⟩ rfl rfl ?_
  refine x_iload3 G d_Wo_init_130 ?_
  refine x_iconst (v := nI 1) G d_Wo_init_131 rfl ?_
  refine f_iast 7 hF G d_Wo_init_132 rfl ⟨by decide, by decide⟩ rfl ⟨by decide, by decide⟩ (fun hF => ?_)
  refine x_iinc3 (v := nI 8) G d_Wo_init_133 rfl hk rfl ?_
  refine x_goto G d_Wo_init_136 ?_
  refine x_iload3 G d_Wo_init_98 ?_
  refine x_bipush (v := nI 9) G d_Wo_init_99 rfl ?_
  refine x_icmp_ge G d_Wo_init_101 (fun q => absurd q (by decide +kernel)) (fun _ => ?_)
  refine x_aload0 G d_Wo_init_104 ?_
  refine f_getr G d_Wo_init_105 fl_Wo_16 rfl ⟨by decide, by decide⟩ rfl rfl ?_
  refine x_iconst (v := nI 0) G d_Wo_init_108 rfl ?_
  refine f_aald 0 G d_Wo_init_109 rfl (by decide) ⟨by decide, by decide⟩ rfl ⟨by decide, by decide⟩ rfl rfl ?_
  refine x_iload3 G d_Wo_init_110 ?_
  refine x_bipush (v := nI 8) G d_Wo_init_111 rfl ?_
  refine f_iast 8 hF G d_Wo_init_113 rfl ⟨by decide, by decide⟩ rfl ⟨by decide, by decide⟩ (fun hF => ?_)
  refine x_aload0 G d_Wo_init_114 ?_
  refine f_getr G d_Wo_init_115 fl_Wo_16 rfl ⟨by decide, by decide⟩ rfl rfl ?_
  refine x_iconst (v := nI 1) G d_Wo_init_118 rfl ?_
  refine f_aald 1 G d_Wo_init_119 rfl (by decide) ⟨by decide, by decide⟩ rfl ⟨by decide, by decide⟩ rfl rfl ?_
  refine x_iload3 G d_Wo_init_120 ?_
  refine x_bipush (v := nI 10) G d_Wo_init_121 rfl ?_
  refine f_iast 8 hF G d_Wo_init_123 rfl ⟨by decide, by decide⟩ rfl ⟨by decide, by decide⟩ (fun hF => ?_)
  refine x_aload0 G d_Wo_init_124 ?_
  refine f_getr G d_Wo_init_125 fl_Wo_16 rfl ⟨by decide, by decide⟩ rfl rfl ?_
  refine x_iconst (v := nI 2) G d_Wo_init_128 rfl ?_
  refine f_aald 2 G d_Wo_init_129 rfl (by decide) ⟨by decide, by decide⟩ rfl ⟨by decide, by decide⟩ rfl rfl ?_
  refine x_iload3 G d_Wo_init_130 ?_
  refine x_iconst (v := nI 1) G d_Wo_init_131 rfl ?_
  refine f_iast 8 hF G d_Wo_init_132 rfl ⟨by decide, by decide⟩ rfl ⟨by decide, by decide⟩ (fun hF => ?_)
  refine x_iinc3 (v := nI 9) G d_Wo_init_133 rfl hk rfl ?_
  refine x_goto G d_Wo_init_136 ?_
  refine x_iload3 G d_Wo_init_98 ?_
  refine x_bipush (v := nI 9) G d_Wo_init_99 rfl ?_
  refine x_icmp_ge G d_Wo_init_101 (fun _ => ?_) (fun q => absurd (by decide +kernel) q)
  refine x_iconst (v := nI 0) G d_Wo_init_139 rfl ?_
  refine x_istore3 G d_Wo_init_140 rfl hk ?_
  refine x_iload3 G d_Wo_init_141 ?_
  refine x_iconst (v := nI 3) G d_Wo_init_142 rfl ?_
  refine x_icmp_ge G d_Wo_init_143 (fun q => absurd q (by decide +kernel)) (fun _ => ?_)
  refine x_aload0 G d_Wo_init_146 ?_
  refine f_getr G d_Wo_init_147 fl_Wo_26 rfl ⟨by decide, by decide⟩ rfl rfl ?_
  refine x_iload3 G d_Wo_init_150 ?_
  refine x_iconst (v := (-1)) G d_Wo_init_151 rfl ?_
  refine f_iast 0 hF G d_Wo_init_152 rfl ⟨by decide, by decide⟩ rfl ⟨by decide, by decide⟩ (fun hF => ?_)
  refine x_iinc3 (v := nI 1) G d_Wo_init_153 rfl hk rfl ?_
  refine x_goto G d_Wo_init_156 ?_
  refine x_iload3 G d_Wo_init_141 ?_
  refine x_iconst (v := nI 3) G d_Wo_init_142 rfl ?_
  refine x_icmp_ge G d_Wo_init_143 (fun q => absurd q (by decide +kernel)) (fun _ => ?_)
  refine x_aload0 G d_Wo_init_146 ?_
  refine f_getr G d_Wo_init_147 fl_Wo_26 rfl ⟨by decide, by decide⟩ rfl rfl ?_
  refine x_iload3 G d_Wo_init_150 ?_
  refine x_iconst (v := (-1)) G d_Wo_init_151 rfl ?_
  refine f_iast 1 hF G d_Wo_init_152 rfl ⟨by decide, by decide⟩ rfl ⟨by decide, by decide⟩ (fun hF => ?_)
  refine x_iinc3 (v := nI 2) G d_Wo_init_153 rfl hk rfl ?_
  refine x_goto G d_Wo_init_156 ?_
  refine x_iload3 G d_Wo_init_141 ?_
  refine x_iconst (v := nI 3) G d_Wo_init_142 rfl ?_
  refine x_icmp_ge G d_Wo_init_143 (fun q => absurd q (by decide +kernel)) (fun _ => ?_)
  refine x_aload0 G d_Wo_init_146 ?_
  refine f_getr G d_Wo_init_147 fl_Wo_26 rfl ⟨by decide, by decide⟩ rfl rfl ?_
  refine x_iload3 G d_Wo_init_150 ?_
  refine x_iconst (v := (-1)) G d_Wo_init_151 rfl ?_
  refine f_iast 2 hF G d_Wo_init_152 rfl ⟨by decide, by decide⟩ rfl ⟨by decide, by decide⟩ (fun hF => ?_)
  refine x_iinc3 (v := nI 3) G d_Wo_init_153 rfl hk rfl ?_
  refine x_goto G d_Wo_init_156 ?_
  refine x_iload3 G d_Wo_init_141 ?_
  refine x_iconst (v := nI 3) G d_Wo_init_142 rfl ?_
  refine x_icmp_ge G d_Wo_init_143 (fun _ => ?_) (fun q => absurd (by decide +kernel) q)
  exact f_vret hF E G d_Wo_init_159 hx.symm rfl (by decide) (by decide +kernel)
def sgW43 (σ : Sg) : Sg := updS (updS (updS (updS (updS (updS (updS (updS (updS (updS (updS (updS (updS (updS (updS (updS (updS (updS (updS (updS (updS (updS (updS (updS (updS (updS (updS (updS (updS (updS (updS (updS σ 43 9 (nI 10)) 43 12 (nI 1)) 52 0 (nI 8)) 53 0 (nI 10)) 54 0 (nI 1)) 52 1 (nI 8)) 53 1 (nI 10)) 54 1 (nI 1)) 52 2 (nI 8)) 53 2 (nI 10)) 54 2 (nI 1)) 52 3 (nI 8)) 53 3 (nI 10)) 54 3 (nI 1)) 52 4 (nI 8)) 53 4 (nI 10)) 54 4 (nI 1)) 52 5 (nI 8)) 53 5 (nI 10)) 54 5 (nI 1)) 52 6 (nI 8)) 53 6 (nI 10)) 54 6 (nI 1)) 52 7 (nI 8)) 53 7 (nI 10)) 54 7 (nI 1)) 52 8 (nI 8)) 53 8 (nI 10)) 54 8 (nI 1)) 57 0 (-1)) 57 1 (-1)) 57 2 (-1)
theorem b_Wo_init_43 (g : CX) (d : Nat) (hd : 1 ≤ d) (σ : Sg) (hz : ∀ j, σ 43 j = 0) : RunF g d Wo_init [.ref 43, .ref 1, .ref 8] 43 44 σ 58 (sgW43 σ) := by
  refine RunF.of 1 (by decide +kernel) rfl (by decide) ?_
  intro κ D hg hx hk0 hnm hF G E
  subst hg
  have hk : 4 ≤ kn κ := Nat.le_of_eq hk0.symm
  show X κ 44 0 [some (.ref 43), some (.ref 1), some (.ref 8), none] [] (wd D cF σ)
  refine x_aload0 G d_Wo_init_0 ?_
  refine x_obj G d_Wo_init_1 k_105 k_28 k_29 (by omega) (Nat.le_of_ble_eq_true rfl) (by decide) ?_
  refine x_aload0 G d_Wo_init_4 ?_
  refine x_bipush (v := nI 6) G d_Wo_init_5 rfl ?_
  refine x_bipush (v := nI 8) G d_Wo_init_7 rfl ?_
  refine f_multi (N := 6) (M := 8) hF G d_Wo_init_9 rfl (by decide +kernel) (by decide) (by decide) k_106 k_99 (by rw [hx]; decide) (by decide) (by decide +kernel) (fun hF => ?_)
  refine f_putr hF G d_Wo_init_13 fl_Wo_11 rfl ⟨by decide, by decide⟩ rfl (by first | exact Or.inl rfl | exact Or.inr ⟨rfl, hnm, rfl⟩) (by first | exact Or.inl ⟨_, rfl⟩ | exact Or.inr ⟨_, rfl⟩) (fun hF => ?_)
  refine x_aload0 G d_Wo_init_16 ?_
  refine x_iconst (v := nI 3) G d_Wo_init_17 rfl ?_
  refine x_bipush (v := nI 9) G d_Wo_init_18 rfl ?_
  refine f_multi (N := 3) (M := 9) hF G d_Wo_init_20 rfl (by decide +kernel) (by decide) (by decide) k_106 k_99 (by rw [hx]; decide) (by decide) (by decide +kernel) (fun hF => ?_)
  refine f_putr hF G d_Wo_init_24 fl_Wo_16 rfl ⟨by decide, by decide⟩ rfl (by first | exact Or.inl rfl | exact Or.inr ⟨rfl, hnm, rfl⟩) (by first | exact Or.inl ⟨_, rfl⟩ | exact Or.inr ⟨_, rfl⟩) (fun hF => ?_)
  refine x_aload0 G d_Wo_init_27 ?_
  refine x_bipush (v := nI 8) G d_Wo_init_28 rfl ?_
  refine f_newa (ty := 0) (len := 8) hF G d_Wo_init_30 ⟨rfl, by decide⟩ rfl k_99 rfl ⟨by decide, by decide⟩ (by rw [hx]; decide) (fun hF => ?_)
  refine f_putr hF G d_Wo_init_32 fl_Wo_19 rfl ⟨by decide, by decide⟩ rfl (by first | exact Or.inl rfl | exact Or.inr ⟨rfl, hnm, rfl⟩) (by first | exact Or.inl ⟨_, rfl⟩ | exact Or.inr ⟨_, rfl⟩) (fun hF => ?_)
  refine x_aload0 G d_Wo_init_35 ?_
  refine x_bipush (v := nI 8) G d_Wo_init_36 rfl ?_
  refine f_newa (ty := 0) (len := 8) hF G d_Wo_init_38 ⟨rfl, by decide⟩ rfl k_99 rfl ⟨by decide, by decide⟩ (by rw [hx]; decide) (fun hF => ?_)
  refine f_putr hF G d_Wo_init_40 fl_Wo_23 rfl ⟨by decide, by decide⟩ rfl (by first | exact Or.inl rfl | exact Or.inr ⟨rfl, hnm, rfl⟩) (by first | exact Or.inl ⟨_, rfl⟩ | exact Or.inr ⟨_, rfl⟩) (fun hF => ?_)
  refine x_aload0 G d_Wo_init_43 ?_
  refine x_iconst (v := nI 3) G d_Wo_init_44 rfl ?_
  refine f_newa (ty := 0) (len := 3) hF G d_Wo_init_45 ⟨rfl, by decide⟩ rfl k_99 rfl ⟨by decide, by decide⟩ (by rw [hx]; decide) (fun hF => ?_)
  refine f_putr hF G d_Wo_init_47 fl_Wo_26 rfl ⟨by decide, by decide⟩ rfl (by first | exact Or.inl rfl | exact Or.inr ⟨rfl, hnm, rfl⟩) (by first | exact Or.inl ⟨_, rfl⟩ | exact Or.inr ⟨_, rfl⟩) (fun hF => ?_)
  refine x_aload0 G d_Wo_init_50 ?_
  refine x_iconst (v := nI 0) G d_Wo_init_51 rfl ?_
  refine f_put0 G d_Wo_init_52 fl_Wo_29 rfl ⟨by decide, by decide⟩ rfl rfl rfl rfl (hz 7) ?_
  refine x_aload0 G d_Wo_init_55 ?_
  refine x_iconst (v := nI 0) G d_Wo_init_56 rfl ?_
  refine f_put0 G d_Wo_init_57 fl_Wo_33 rfl ⟨by decide, by decide⟩ rfl rfl rfl rfl (hz 8) ?_
  refine x_aload0 G d_Wo_init_60 ?_
  refine x_bipush (v := nI 10) G d_Wo_init_61 rfl ?_
  refine f_puti hF G d_Wo_init_63 fl_Wo_36 rfl ⟨by decide, by decide⟩ rfl rfl rfl rfl (fun hF => ?_)
  refine x_aload0 G d_Wo_init_66 ?_
  refine x_iconst (v := nI 0) G d_Wo_init_67 rfl ?_
  refine f_put0 G d_Wo_init_68 fl_Wo_39 rfl ⟨by decide, by decide⟩ rfl rfl rfl rfl (by simp [updS, hz 10]) ?_
  refine x_aload0 G d_Wo_init_71 ?_
  refine x_iconst (v := nI 0) G d_Wo_init_72 rfl ?_
  refine f_put0 G d_Wo_init_73 fl_Wo_42 rfl ⟨by decide, by decide⟩ rfl rfl rfl rfl (by simp [updS, hz 11]) ?_
  refine x_aload0 G d_Wo_init_76 ?_
  refine x_iconst (v := nI 1) G d_Wo_init_77 rfl ?_
  refine f_puti hF G d_Wo_init_78 fl_Wo_45 rfl ⟨by decide, by decide⟩ rfl rfl rfl rfl (fun hF => ?_)
  refine x_aload0 G d_Wo_init_81 ?_
  refine x_iconst (v := nI 0) G d_Wo_init_82 rfl ?_
  refine f_put0 G d_Wo_init_83 fl_Wo_48 rfl ⟨by decide, by decide⟩ rfl rfl rfl rfl (by simp [updS, hz 13]) ?_
  refine x_aload0 G d_Wo_init_86 ?_
  refine x_aload1 G d_Wo_init_87 ?_
  refine f_putr hF G d_Wo_init_88 fl_Wo_51 rfl ⟨by decide, by decide⟩ rfl (by first | exact Or.inl rfl | exact Or.inr ⟨rfl, hnm, rfl⟩) (by first | exact Or.inl ⟨_, rfl⟩ | exact Or.inr ⟨_, rfl⟩) (fun hF => ?_)
  refine x_aload0 G d_Wo_init_91 ?_
  refine x_aload2 G d_Wo_init_92 ?_
  refine f_putr hF G d_Wo_init_93 fl_Wo_55 rfl ⟨by decide, by decide⟩ rfl (by first | exact Or.inl rfl | exact Or.inr ⟨rfl, hnm, rfl⟩) (by first | exact Or.inl ⟨_, rfl⟩ | exact Or.inr ⟨_, rfl⟩) (fun hF => ?_)
  refine x_iconst (v := nI 0) G d_Wo_init_96 rfl ?_
  refine x_istore3 G d_Wo_init_97 rfl hk ?_
  refine x_iload3 G d_Wo_init_98 ?_
  refine x_bipush (v := nI 9) G d_Wo_init_99 rfl ?_
  refine x_icmp_ge G d_Wo_init_101 (fun q => absurd q (by decide +kernel)) (fun _ => ?_)
  refine x_aload0 G d_Wo_init_104 ?_
  refine f_getr G d_Wo_init_105 fl_Wo_16 rfl ⟨by decide, by decide⟩ rfl rfl ?_
  refine x_iconst (v := nI 0) G d_Wo_init_108 rfl ?_
  refine f_aald 0 G d_Wo_init_109 rfl (by decide) ⟨by decide, by decide⟩ rfl ⟨by decide, by decide⟩ rfl rfl ?_
  refine x_iload3 G d_Wo_init_110 ?_
  refine x_bipush (v := nI 8) G d_Wo_init_111 rfl ?_
  refine f_iast 0 hF G d_Wo_init_113 rfl ⟨by decide, by decide⟩ rfl ⟨by decide, by decide⟩ (fun hF => ?_)
  refine x_aload0 G d_Wo_init_114 ?_
  refine f_getr G d_Wo_init_115 fl_Wo_16 rfl ⟨by decide, by decide⟩ rfl rfl ?_
  refine x_iconst (v := nI 1) G d_Wo_init_118 rfl ?_
  refine f_aald 1 G d_Wo_init_119 rfl (by decide) ⟨by decide, by decide⟩ rfl ⟨by decide, by decide⟩ rfl rfl ?_
  refine x_iload3 G d_Wo_init_120 ?_
  refine x_bipush (v := nI 10) G d_Wo_init_121 rfl ?_
  refine f_iast 0 hF G d_Wo_init_123 rfl ⟨by decide, by decide⟩ rfl ⟨by decide, by decide⟩ (fun hF => ?_)
  refine x_aload0 G d_Wo_init_124 ?_
  refine f_getr G d_Wo_init_125 fl_Wo_16 rfl ⟨by decide, by decide⟩ rfl rfl ?_
  refine x_iconst (v := nI 2) G d_Wo_init_128 rfl ?_
  refine f_aald 2 G d_Wo_init_129 rfl (by decide) ⟨by decide, by decide⟩ rfl ⟨by decide, by decide⟩ rfl rfl ?_
  refine x_iload3 G d_Wo_init_130 ?_
  refine x_iconst (v := nI 1) G d_Wo_init_131 rfl ?_
  refine f_iast 0 hF G d_Wo_init_132 rfl ⟨by decide, by decide⟩ rfl ⟨by decide, by decide⟩ (fun hF => ?_)
  refine x_iinc3 (v := nI 1) G d_Wo_init_133 rfl hk rfl ?_
  refine x_goto G d_Wo_init_136 ?_
  refine x_iload3 G d_Wo_init_98 ?_
  refine x_bipush (v := nI 9) G d_Wo_init_99 rfl ?_
  refine x_icmp_ge G d_Wo_init_101 (fun q => absurd q (by decide +kernel)) (fun _ => ?_)
  refine x_aload0 G d_Wo_init_104 ?_
  refine f_getr G d_Wo_init_105 fl_Wo_16 rfl ⟨by decide, by decide⟩ rfl rfl ?_
  refine x_iconst (v := nI 0) G d_Wo_init_108 rfl ?_
  refine f_aald 0 G d_Wo_init_109 rfl (by decide) ⟨by decide, by decide⟩ rfl ⟨by decide, by decide⟩ rfl rfl ?_
  refine x_iload3 G d_Wo_init_110 ?_
  refine x_bipush (v := nI 8) G d_Wo_init_111 rfl ?_
  refine f_iast 1 hF G d_Wo_init_113 rfl ⟨by decide, by decide⟩ rfl ⟨by decide, by decide⟩ (fun hF => ?_)
  refine x_aload0 G d_Wo_init_114 ?_
  refine f_getr G d_Wo_init_115 fl_Wo_16 rfl ⟨by decide, by decide⟩ rfl rfl ?_
  refine x_iconst (v := nI 1) G d_Wo_init_118 rfl ?_
  refine f_aald 1 G d_Wo_init_119 rfl (by decide) ⟨by decide, by decide⟩ rfl ⟨by decide, by decide⟩ rfl rfl ?_
  refine x_iload3 G d_Wo_init_120 ?_
  refine x_bipush (v := nI 10) G d_Wo_init_121 rfl ?_
  refine f_iast 1 hF G d_Wo_init_123 rfl ⟨by decide, by decide⟩ rfl ⟨by decide, by decide⟩ (fun hF => ?_)
  refine x_aload0 G d_Wo_init_124 ?_
  refine f_getr G d_Wo_init_125 fl_Wo_16 rfl ⟨by decide, by decide⟩ rfl rfl ?_
  refine x_iconst (v := nI 2) G d_Wo_init_128 rfl ?_
  refine f_aald 2 G d_Wo_init_129 rfl (by decide) ⟨by decide, by decide⟩ rfl ⟨by decide, by decide⟩ rfl rfl ?_
  refine x_iload3 G d_Wo_init_130 ?_
  refine x_iconst (v := nI 1) G d_Wo_init_131 rfl ?_
  refine f_iast 1 hF G d_Wo_init_132 rfl ⟨by decide, by decide⟩ rfl ⟨by decide, by decide⟩ (fun hF => ?_)
  refine x_iinc3 (v := nI 2) G d_Wo_init_133 rfl hk rfl ?_
  refine x_goto G d_Wo_init_136 ?_
  refine x_iload3 G d_Wo_init_98 ?_
  refine x_bipush (v := nI 9) G d_Wo_init_99 rfl ?_
  refine x_icmp_ge G d_Wo_init_101 (fun q => absurd q (by decide +kernel)) (fun _ => ?_)
  refine x_aload0 G d_Wo_init_104 ?_
  refine f_getr G d_Wo_init_105 fl_Wo_16 rfl ⟨by decide, by decide⟩ rfl rfl ?_
  refine x_iconst (v := nI 0) G d_Wo_init_108 rfl ?_
  refine f_aald 0 G d_Wo_init_109 rfl (by decide) ⟨by decide, by decide⟩ rfl ⟨by decide, by decide⟩ rfl rfl ?_
  refine x_iload3 G d_Wo_init_110 ?_
  refine x_bipush (v := nI 8) G d_Wo_init_111 rfl ?_
  refine f_iast 2 hF G d_Wo_init_113 rfl ⟨by decide, by decide⟩ rfl ⟨by decide, by decide⟩ (fun hF => ?_)
  refine x_aload0 G d_Wo_init_114 ?_
  refine f_getr G d_Wo_init_115 fl_Wo_16 rfl ⟨by decide, by decide⟩ rfl rfl ?_
  refine x_iconst (v := nI 1) G d_Wo_init_118 rfl ?_
  refine f_aald 1 G d_Wo_init_119 rfl (by decide) ⟨by decide, by decide⟩ rfl ⟨by decide, by decide⟩ rfl rfl ?_
  refine x_iload3 G d_Wo_init_120 ?_
  refine x_bipush (v := nI 10) G d_Wo_init_121 rfl ?_
  refine f_iast 2 hF G d_Wo_init_123 rfl ⟨by decide, by decide⟩ rfl ⟨by decide, by decide⟩ (fun hF => ?_)
  refine x_aload0 G d_Wo_init_124 ?_
  refine f_getr G d_Wo_init_125 fl_Wo_16 rfl ⟨by decide, by decide⟩ rfl rfl ?_
  refine x_iconst (v := nI 2) G d_Wo_init_128 rfl ?_
  refine f_aald 2 G d_Wo_init_129 rfl (by decide) ⟨by decide, by decide⟩ rfl ⟨by decide, by decide⟩ rfl rfl ?_
  refine x_iload3 G d_Wo_init_130 ?_
  refine x_iconst (v := nI 1) G d_Wo_init_131 rfl ?_
  refine f_iast 2 hF G d_Wo_init_132 rfl ⟨by decide, by decide⟩ rfl ⟨by decide, by decide⟩ (fun hF => ?_)
  refine x_iinc3 (v := nI 3) G d_Wo_init_133 rfl hk rfl ?_
  refine x_goto G d_Wo_init_136 ?_
  refine x_iload3 G d_Wo_init_98 ?_
  refine x_bipush (v := nI 9) G d_Wo_init_99 rfl ?_
  refine x_icmp_ge G d_Wo_init_101 (fun q => absurd q (by decide +kernel)) (fun _ => ?_)
  refine x_aload0 G d_Wo_init_104 ?_
  refine f_getr G d_Wo_init_105 fl_Wo_16 rfl ⟨by decide, by decide⟩ rfl rfl ?_
  refine x_iconst (v := nI 0) G d_Wo_init_108 rfl ?_
  refine f_aald 0 G d_Wo_init_109 rfl (by decide) ⟨by decide, by decide⟩ rfl ⟨by decide, by decide⟩ rfl rfl ?_
  refine x_iload3 G d_Wo_init_110 ?_
  refine x_bipush (v := nI 8) G d_Wo_init_111 rfl ?_
  refine f_iast 3 hF G d_Wo_init_113 rfl ⟨by decide, by decide⟩ rfl ⟨by decide, by decide⟩ (fun hF => ?_)
  refine x_aload0 G d_Wo_init_114 ?_
  refine f_getr G d_Wo_init_115 fl_Wo_16 rfl ⟨by decide, by decide⟩ rfl rfl ?_
  refine x_iconst (v := nI 1) G d_Wo_init_118 rfl ?_
  refine f_aald 1 G d_Wo_init_119 rfl (by decide) ⟨by decide, by decide⟩ rfl ⟨by decide, by decide⟩ rfl rfl ?_
  refine x_iload3 G d_Wo_init_120 ?_
  refine x_bipush (v := nI 10) G d_Wo_init_121 rfl ?_
  refine f_iast 3 hF G d_Wo_init_123 rfl ⟨by decide, by decide⟩ rfl ⟨by decide, by decide⟩ (fun hF => ?_)
  refine x_aload0 G d_Wo_init_124 ?_
  refine f_getr G d_Wo_init_125 fl_Wo_16 rfl ⟨by decide, by decide⟩ rfl rfl ?_
  refine x_iconst (v := nI 2) G d_Wo_init_128 rfl ?_
  refine f_aald 2 G d_Wo_init_129 rfl (by decide) ⟨by decide, by decide⟩ rfl ⟨by decide, by decide⟩ rfl rfl ?_
  refine x_iload3 G d_Wo_init_130 ?_
  refine x_iconst (v := nI 1) G d_Wo_init_131 rfl ?_
  refine f_iast 3 hF G d_Wo_init_132 rfl ⟨by decide, by decide⟩ rfl ⟨by decide, by decide⟩ (fun hF => ?_)
  refine x_iinc3 (v := nI 4) G d_Wo_init_133 rfl hk rfl ?_
  refine x_goto G d_Wo_init_136 ?_
  refine x_iload3 G d_Wo_init_98 ?_
  refine x_bipush (v := nI 9) G d_Wo_init_99 rfl ?_
  refine x_icmp_ge G d_Wo_init_101 (fun q => absurd q (by decide +kernel)) (fun _ => ?_)
  refine x_aload0 G d_Wo_init_104 ?_
  refine f_getr G d_Wo_init_105 fl_Wo_16 rfl ⟨by decide, by decide⟩ rfl rfl ?_
  refine x_iconst (v := nI 0) G d_Wo_init_108 rfl ?_
  refine f_aald 0 G d_Wo_init_109 rfl (by decide) ⟨by decide, by decide⟩ rfl ⟨by decide, by decide⟩ rfl rfl ?_
  refine x_iload3 G d_Wo_init_110 ?_
  refine x_bipush (v := nI 8) G d_Wo_init_111 rfl ?_
  refine f_iast 4 hF G d_Wo_init_113 rfl ⟨by decide, by decide⟩ rfl ⟨by decide, by decide⟩ (fun hF => ?_)
  refine x_aload0 G d_Wo_init_114 ?_
  refine f_getr G d_Wo_init_115 fl_Wo_16 rfl ⟨by decide, by decide⟩ rfl rfl ?_
  refine x_iconst (v := nI 1) G d_Wo_init_118 rfl ?_
  refine f_aald 1 G d_Wo_init_119 rfl (by decide) ⟨by decide, by decide⟩ rfl ⟨by decide, by decide⟩ rfl rfl ?_
  refine x_iload3 G d_Wo_init_120 ?_
  refine x_bipush (v := nI 10) G d_Wo_init_121 rfl ?_
  refine f_iast 4 hF G d_Wo_init_123 rfl ⟨by decide, by decide⟩ rfl ⟨by decide, by decide⟩ (fun hF => ?_)
  refine x_aload0 G d_Wo_init_124 ?_
  refine f_getr G d_Wo_init_125 fl_Wo_16 rfl ⟨by decide, by decide⟩ rfl rfl ?_
  refine x_iconst (v := nI 2) G d_Wo_init_128 rfl ?_
  refine f_aald 2 G d_Wo_init_129 rfl (by decide) ⟨by decide, by decide⟩ rfl ⟨by decide, by decide⟩ rfl rfl ?_
  refine x_iload3 G d_Wo_init_130 ?_
  refine x_iconst (v := nI 1) G d_Wo_init_131 rfl ?_
  refine f_iast 4 hF G d_Wo_init_132 rfl ⟨by decide, by decide⟩ rfl ⟨by decide, by decide⟩ (fun hF => ?_)
  refine x_iinc3 (v := nI 5) G d_Wo_init_133 rfl hk rfl ?_
  refine x_goto G d_Wo_init_136 ?_
  refine x_iload3 G d_Wo_init_98 ?_
  refine x_bipush (v := nI 9) G d_Wo_init_99 rfl ?_
  refine x_icmp_ge G d_Wo_init_101 (fun q => absurd q (by decide +kernel)) (fun _ => ?_)
  refine x_aload0 G d_Wo_init_104 ?_
  refine f_getr G d_Wo_init_105 fl_Wo_16 rfl ⟨by decide, by decide⟩ rfl rfl ?_
  refine x_iconst (v := nI 0) G d_Wo_init_108 rfl ?_
  refine f_aald 0 G d_Wo_init_109 rfl (by decide) ⟨by decide, by decide⟩ rfl ⟨by decide, by decide⟩ rfl rfl ?_
  refine x_iload3 G d_Wo_init_110 ?_
  refine x_bipush (v := nI 8) G d_Wo_init_111 rfl ?_
  refine f_iast 5 hF G d_Wo_init_113 rfl ⟨by decide, by decide⟩ rfl ⟨by decide, by decide⟩ (fun hF => ?_)
  refine x_aload0 G d_Wo_init_114 ?_
  refine f_getr G d_Wo_init_115 fl_Wo_16 rfl ⟨by decide, by decide⟩ rfl rfl ?_
  refine x_iconst (v := nI 1) G d_Wo_init_118 rfl ?_
  refine f_aald 1 G d_Wo_init_119 rfl (by decide) ⟨by decide, by decide⟩ rfl ⟨by decide, by decide⟩ rfl rfl ?_
  refine x_iload3 G d_Wo_init_120 ?_
  refine x_bipush (v := nI 10) G d_Wo_init_121 rfl ?_
  refine f_iast 5 hF G d_Wo_init_123 rfl ⟨by decide, by decide⟩ rfl ⟨by decide, by decide⟩ (fun hF => ?_)
  refine x_aload0 G d_Wo_init_124 ?_
  refine f_getr G d_Wo_init_125 fl_Wo_16 rfl ⟨by decide, by decide⟩ rfl rfl ?_
  refine x_iconst (v := nI 2) G d_Wo_init_128 rfl ?_
  refine f_aald 2 G d_Wo_init_129 rfl (by decide) ⟨by decide, by decide⟩ rfl ⟨by decide, by decide⟩ rfl rfl ?_
  refine x_iload3 G d_Wo_init_130 ?_
  refine x_iconst (v := nI 1) G d_Wo_init_131 rfl ?_
  refine f_iast 5 hF G d_Wo_init_132 rfl ⟨by decide, by decide⟩ rfl ⟨by decide, by decide⟩ (fun hF => ?_)
  refine x_iinc3 (v := nI 6) G d_Wo_init_133 rfl hk rfl ?_
  refine x_goto G d_Wo_init_136 ?_
  refine x_iload3 G d_Wo_init_98 ?_
  refine x_bipush (v := nI 9) G d_Wo_init_99 rfl ?_
  refine x_icmp_ge G d_Wo_init_101 (fun q => absurd q (by decide +kernel)) (fun _ => ?_)
  refine x_aload0 G d_Wo_init_104 ?_
  refine f_getr G d_Wo_init_105 fl_Wo_16 rfl ⟨by decide, by decide⟩ rfl rfl ?_
  refine x_iconst (v := nI 0) G d_Wo_init_108 rfl ?_
  refine f_aald 0 G d_Wo_init_109 rfl (by decide) ⟨by decide, by decide⟩ rfl ⟨by decide, by decide⟩ rfl rfl ?_
  refine x_iload3 G d_Wo_init_110 ?_
  refine x_bipush (v := nI 8) G d_Wo_init_111 rfl ?_
  refine f_iast 6 hF G d_Wo_init_113 rfl ⟨by decide, by decide⟩ rfl ⟨by decide, by decide⟩ (fun hF => ?_)
  refine x_aload0 G d_Wo_init_114 ?_
  refine f_getr G d_Wo_init_115 fl_Wo_16 rfl ⟨by decide, by decide⟩ rfl rfl ?_
  refine x_iconst (v := nI 1) G d_Wo_init_118 rfl ?_
  refine f_aald 1 G d_Wo_init_119 rfl (by decide) ⟨by decide, by decide⟩ rfl ⟨by decide, by decide⟩ rfl rfl ?_
  refine x_iload3 G d_Wo_init_120 ?_
  refine x_bipush (v := nI 10) G d_Wo_init_121 rfl ?_
  refine f_iast 6 hF G d_Wo_init_123 rfl ⟨by decide, by decide⟩ rfl ⟨by decide, by decide⟩ (fun hF => ?_)
  refine x_aload0 G d_Wo_init_124 ?_
  refine f_getr G d_Wo_init_125 fl_Wo_16 rfl ⟨by decide, by decide⟩ rfl rfl ?_
  refine x_iconst (v := nI 2) G d_Wo_init_128 rfl ?_
  refine f_aald 2 G d_Wo_init_129 rfl (by decide) ⟨by decide, by decide⟩ rfl ⟨by decide, by decide⟩ rfl rfl ?_
  refine x_iload3 G d_Wo_init_130 ?_
  refine x_iconst (v := nI 1) G d_Wo_init_131 rfl ?_
  refine f_iast 6 hF G d_Wo_init_132 rfl ⟨by decide, by decide⟩ rfl ⟨by decide, by decide⟩ (fun hF => ?_)
  refine x_iinc3 (v := nI 7) G d_Wo_init_133 rfl hk rfl ?_
  refine x_goto G d_Wo_init_136 ?_
  refine x_iload3 G d_Wo_init_98 ?_
  refine x_bipush (v := nI 9) G d_Wo_init_99 rfl ?_
  refine x_icmp_ge G d_Wo_init_101 (fun q => absurd q (by decide +kernel)) (fun _ => ?_)
  refine x_aload0 G d_Wo_init_104 ?_
  refine f_getr G d_Wo_init_105 fl_Wo_16 rfl ⟨by decide, by decide⟩ rfl rfl ?_
  refine x_iconst (v := nI 0) G d_Wo_init_108 rfl ?_
  refine f_aald 0 G d_Wo_init_109 rfl (by decide) ⟨by decide, by decide⟩ rfl ⟨by decide, by decide⟩ rfl rfl ?_
  refine x_iload3 G d_Wo_init_110 ?_
  refine x_bipush (v := nI 8) G d_Wo_init_111 rfl ?_
  refine f_iast 7 hF G d_Wo_init_113 rfl ⟨by decide, by decide⟩ rfl ⟨by decide, by decide⟩ (fun hF => ?_)
  refine x_aload0 G d_Wo_init_114 ?_
  refine f_getr G d_Wo_init_115 fl_Wo_16 rfl ⟨by decide, by decide⟩ rfl rfl ?_
  refine x_iconst (v := nI 1) G d_Wo_init_118 rfl ?_
  refine f_aald 1 G d_Wo_init_119 rfl (by decide) ⟨by decide, by decide⟩ rfl ⟨by decide, by decide⟩ rfl rfl ?_
  refine x_iload3 G d_Wo_init_120 ?_
  refine x_bipush (v := nI 10) G d_Wo_init_121 rfl ?_
  refine f_iast 7 hF G d_Wo_init_123 rfl ⟨by decide, by decide⟩ rfl ⟨by decide, by decide⟩ (fun hF => ?_)
  refine x_aload0 G d_Wo_init_124 ?_
  refine f_getr G d_Wo_init_125 fl_Wo_16 rfl ⟨by decide, by decide⟩ rfl rfl ?_
  refine x_iconst (v := nI 2) G d_Wo_init_128 rfl ?_
  refine f_aald 2 G d_Wo_init_129 rfl (by decide) ⟨by decide, by decide⟩ rfl ⟨by decide, by decide⟩ rfl rfl ?_
  refine x_iload3 G d_Wo_init_130 ?_
  refine x_iconst (v := nI 1) G d_Wo_init_131 rfl ?_
  refine f_iast 7 hF G d_Wo_init_132 rfl ⟨by decide, by decide⟩ rfl ⟨by decide, by decide⟩ (fun hF => ?_)
  refine x_iinc3 (v := nI 8) G d_Wo_init_133 rfl hk rfl ?_
  refine x_goto G d_Wo_init_136 ?_
  refine x_iload3 G d_Wo_init_98 ?_
  refine x_bipush (v := nI 9) G d_Wo_init_99 rfl ?_
  refine x_icmp_ge G d_Wo_init_101 (fun q => absurd q (by decide +kernel)) (fun _ => ?_)
  refine x_aload0 G d_Wo_init_104 ?_
  refine f_getr G d_Wo_init_105 fl_Wo_16 rfl ⟨by decide, by decide⟩ rfl rfl ?_
  refine x_iconst (v := nI 0) G d_Wo_init_108 rfl ?_
  refine f_aald 0 G d_Wo_init_109 rfl (by decide) ⟨by decide, by decide⟩ rfl ⟨by decide, by decide⟩ rfl rfl ?_
  refine x_iload3 G d_Wo_init_110 ?_
  refine x_bipush (v := nI 8) G d_Wo_init_111 rfl ?_
  refine f_iast 8 hF G d_Wo_init_113 rfl ⟨by decide, by decide⟩ rfl ⟨by decide, by decide⟩ (fun hF => ?_)
  refine x_aload0 G d_Wo_init_114 ?_
  refine f_getr G d_Wo_init_115 fl_Wo_16 rfl ⟨by decide, by decide⟩ rfl rfl ?_
  refine x_iconst (v := nI 1) G d_Wo_init_118 rfl ?_
  refine f_aald 1 G d_Wo_init_119 rfl (by decide) ⟨by decide, by decide⟩ rfl ⟨by decide, by decide⟩ rfl rfl ?_
  refine x_iload3 G d_Wo_init_120 ?_
  refine x_bipush (v := nI 10) G d_Wo_init_121 rfl ?_
  refine f_iast 8 hF G d_Wo_init_123 rfl ⟨by decide, by decide⟩ rfl ⟨by decide, by decide⟩ (fun hF => ?_)
  refine x_aload0 G d_Wo_init_124 ?_
  refine f_getr G d_Wo_init_125 fl_Wo_16 rfl ⟨by decide, by decide⟩ rfl rfl ?_
  refine x_iconst (v := nI 2) G d_Wo_init_128 rfl ?_
  refine f_aald 2 G d_Wo_init_129 rfl (by decide) ⟨by decide, by decide⟩ rfl ⟨by decide, by decide⟩ rfl rfl ?_
  refine x_iload3 G d_Wo_init_130 ?_
  refine x_iconst (v := nI 1) G d_Wo_init_131 rfl ?_
  refine f_iast 8 hF G d_Wo_init_132 rfl ⟨by decide, by decide⟩ rfl ⟨by decide, by decide⟩ (fun hF => ?_)
  refine x_iinc3 (v := nI 9) G d_Wo_init_133 rfl hk rfl ?_
  refine x_goto G d_Wo_init_136 ?_
  refine x_iload3 G d_Wo_init_98 ?_
  refine x_bipush (v := nI 9) G d_Wo_init_99 rfl ?_
  refine x_icmp_ge G d_Wo_init_101 (fun _ => ?_) (fun q => absurd (by decide +kernel) q)
  refine x_iconst (v := nI 0) G d_Wo_init_139 rfl ?_
  refine x_istore3 G d_Wo_init_140 rfl hk ?_
  refine x_iload3 G d_Wo_init_141 ?_
  refine x_iconst (v := nI 3) G d_Wo_init_142 rfl ?_
  refine x_icmp_ge G d_Wo_init_143 (fun q => absurd q (by decide +kernel)) (fun _ => ?_)
  refine x_aload0 G d_Wo_init_146 ?_
  refine f_getr G d_Wo_init_147 fl_Wo_26 rfl ⟨by decide, by decide⟩ rfl rfl ?_
  refine x_iload3 G d_Wo_init_150 ?_
  refine x_iconst (v := (-1)) G d_Wo_init_151 rfl ?_
  refine f_iast 0 hF G d_Wo_init_152 rfl ⟨by decide, by decide⟩ rfl ⟨by decide, by decide⟩ (fun hF => ?_)
  refine x_iinc3 (v := nI 1) G d_Wo_init_153 rfl hk rfl ?_
  refine x_goto G d_Wo_init_156 ?_
  refine x_iload3 G d_Wo_init_141 ?_
  refine x_iconst (v := nI 3) G d_Wo_init_142 rfl ?_
  refine x_icmp_ge G d_Wo_init_143 (fun q => absurd q (by decide +kernel)) (fun _ => ?_)
  refine x_aload0 G d_Wo_init_146 ?_
  refine f_getr G d_Wo_init_147 fl_Wo_26 rfl ⟨by decide, by decide⟩ rfl rfl ?_
  refine x_iload3 G d_Wo_init_150 ?_
  refine x_iconst (v := (-1)) G d_Wo_init_151 rfl ?_
  refine f_iast 1 hF G d_Wo_init_152 rfl ⟨by decide, by decide⟩ rfl ⟨by decide, by decide⟩ (fun hF => ?_)
  refine x_iinc3 (v := nI 2) G d_Wo_init_153 rfl hk rfl ?_
  refine x_goto G d_Wo_init_156 ?_
  refine x_iload3 G d_Wo_init_141 ?_
  refine x_iconst (v := nI 3) G d_Wo_init_142 rfl ?_
  refine x_icmp_ge G d_Wo_init_143 (fun q => absurd q (by decide +kernel)) (fun _ => ?_)
  refine x_aload0 G d_Wo_init_146 ?_
  refine f_getr G d_Wo_init_147 fl_Wo_26 rfl ⟨by decide, by decide⟩ rfl rfl ?_
  refine x_iload3 G d_Wo_init_150 ?_
  refine x_iconst (v := (-1)) G d_Wo_init_151 rfl ?_
  refine f_iast 2 hF G d_Wo_init_152 rfl ⟨by decide, by decide⟩ rfl ⟨by decide, by decide⟩ (fun hF => ?_)
  refine x_iinc3 (v := nI 3) G d_Wo_init_153 rfl hk rfl ?_
  refine x_goto G d_Wo_init_156 ?_
  refine x_iload3 G d_Wo_init_141 ?_
  refine x_iconst (v := nI 3) G d_Wo_init_142 rfl ?_
  refine x_icmp_ge G d_Wo_init_143 (fun _ => ?_) (fun q => absurd (by decide +kernel) q)
  exact f_vret hF E G d_Wo_init_159 hx.symm rfl (by decide) (by decide +kernel)
def sgW58 (σ : Sg) : Sg := updS (updS (updS (updS (updS (updS (updS (updS (updS (updS (updS (updS (updS (updS (updS (updS (updS (updS (updS (updS (updS (updS (updS (updS (updS (updS (updS (updS (updS (updS (updS (updS σ 58 9 (nI 10)) 58 12 (nI 1)) 67 0 (nI 8)) 68 0 (nI 10)) 69 0 (nI 1)) 67 1 (nI 8)) 68 1 (nI 10)) 69 1 (nI 1)) 67 2 (nI 8)) 68 2 (nI 10)) 69 2 (nI 1)) 67 3 (nI 8)) 68 3 (nI 10)) 69 3 (nI 1)) 67 4 (nI 8)) 68 4 (nI 10)) 69 4 (nI 1)) 67 5 (nI 8)) 68 5 (nI 10)) 69 5 (nI 1)) 67 6 (nI 8)) 68 6 (nI 10)) 69 6 (nI 1)) 67 7 (nI 8)) 68 7 (nI 10)) 69 7 (nI 1)) 67 8 (nI 8)) 68 8 (nI 10)) 69 8 (nI 1)) 72 0 (-1)) 72 1 (-1)) 72 2 (-1)
theorem b_Wo_init_58 (g : CX) (d : Nat) (hd : 1 ≤ d) (σ : Sg) (hz : ∀ j, σ 58 j = 0) : RunF g d Wo_init [.ref 58, .ref 1, .ref 8] 58 59 σ 73 (sgW58 σ) := by
  refine RunF.of 1 (by decide +kernel) rfl (by decide) ?_
  intro κ D hg hx hk0 hnm hF G E
  subst hg
  have hk : 4 ≤ kn κ := Nat.le_of_eq hk0.symm
  show X κ 59 0 [some (.ref 58), some (.ref 1), some (.ref 8), none] [] (wd D cF σ)
  refine x_aload0 G d_Wo_init_0 ?_
  refine x_obj G d_Wo_init_1 k_105 k_28 k_29 (by omega) (Nat.le_of_ble_eq_true rfl) (by decide) ?_
  refine x_aload0 G d_Wo_init_4 ?_
  refine x_bipush (v := nI 6) G d_Wo_init_5 rfl ?_
  refine x_bipush (v := nI 8) G d_Wo_init_7 rfl ?_
  refine f_multi (N := 6) (M := 8) hF G d_Wo_init_9 rfl (by decide +kernel) (by decide) (by decide) k_106 k_99 (by rw [hx]; decide) (by decide) (by decide +kernel) (fun hF => ?_)
  refine f_putr hF G d_Wo_init_13 fl_Wo_11 rfl ⟨by decide, by decide⟩ rfl (by first | exact Or.inl rfl | exact Or.inr ⟨rfl, hnm, rfl⟩) (by first | exact Or.inl ⟨_, rfl⟩ | exact Or.inr ⟨_, rfl⟩) (fun hF => ?_)
  refine x_aload0 G d_Wo_init_16 ?_
  refine x_iconst (v := nI 3) G d_Wo_init_17 rfl ?_
  refine x_bipush (v := nI 9) G d_Wo_init_18 rfl ?_
  refine f_multi (N := 3) (M := 9) hF G d_Wo_init_20 rfl (by decide +kernel) (by decide) (by decide) k_106 k_99 (by rw [hx]; decide) (by decide) (by decide +kernel) (fun hF => ?_)
  refine f_putr hF G d_Wo_init_24 fl_Wo_16 rfl ⟨by decide, by decide⟩ rfl (by first | exact Or.inl rfl | exact Or.inr ⟨rfl, hnm, rfl⟩) (by first | exact Or.inl ⟨_, rfl⟩ | exact Or.inr ⟨_, rfl⟩) (fun hF => ?_)
  refine x_aload0 G d_Wo_init_27 ?_
  refine x_bipush (v := nI 8) G d_Wo_init_28 rfl ?_
  refine f_newa (ty := 0) (len := 8) hF G d_Wo_init_30 ⟨rfl, by decide⟩ rfl k_99 rfl ⟨by decide, by decide⟩ (by rw [hx]; decide) (fun hF => ?_)
  refine f_putr hF G d_Wo_init_32 fl_Wo_19 rfl ⟨by decide, by decide⟩ rfl (by first | exact Or.inl rfl | exact Or.inr ⟨rfl, hnm, rfl⟩) (by first | exact Or.inl ⟨_, rfl⟩ | exact Or.inr ⟨_, rfl⟩) (fun hF => ?_)
  refine x_aload0 G d_Wo_init_35 ?_
  refine x_bipush (v := nI 8) G d_Wo_init_36 rfl ?_
  refine f_newa (ty := 0) (len := 8) hF G d_Wo_init_38 ⟨rfl, by decide⟩ rfl k_99 rfl ⟨by decide, by decide⟩ (by rw [hx]; decide) (fun hF => ?_)
  refine f_putr hF G d_Wo_init_40 fl_Wo_23 rfl ⟨by decide, by decide⟩ rfl (by first | exact Or.inl rfl | exact Or.inr ⟨rfl, hnm, rfl⟩) (by first | exact Or.inl ⟨_, rfl⟩ | exact Or.inr ⟨_, rfl⟩) (fun hF => ?_)
  refine x_aload0 G d_Wo_init_43 ?_
  refine x_iconst (v := nI 3) G d_Wo_init_44 rfl ?_
  refine f_newa (ty := 0) (len := 3) hF G d_Wo_init_45 ⟨rfl, by decide⟩ rfl k_99 rfl ⟨by decide, by decide⟩ (by rw [hx]; decide) (fun hF => ?_)
  refine f_putr hF G d_Wo_init_47 fl_Wo_26 rfl ⟨by decide, by decide⟩ rfl (by first | exact Or.inl rfl | exact Or.inr ⟨rfl, hnm, rfl⟩) (by first | exact Or.inl ⟨_, rfl⟩ | exact Or.inr ⟨_, rfl⟩) (fun hF => ?_)
  refine x_aload0 G d_Wo_init_50 ?_
  refine x_iconst (v := nI 0) G d_Wo_init_51 rfl ?_
  refine f_put0 G d_Wo_init_52 fl_Wo_29 rfl ⟨by decide, by decide⟩ rfl rfl rfl rfl (hz 7) ?_
  refine x_aload0 G d_Wo_init_55 ?_
  refine x_iconst (v := nI 0) G d_Wo_init_56 rfl ?_
  refine f_put0 G d_Wo_init_57 fl_Wo_33 rfl ⟨by decide, by decide⟩ rfl rfl rfl rfl (hz 8) ?_
  refine x_aload0 G d_Wo_init_60 ?_
  refine x_bipush (v := nI 10) G d_Wo_init_61 rfl ?_
  refine f_puti hF G d_Wo_init_63 fl_Wo_36 rfl ⟨by decide, by decide⟩ rfl rfl rfl rfl (fun hF => ?_)
  refine x_aload0 G d_Wo_init_66 ?_
  refine x_iconst (v := nI 0) G d_Wo_init_67 rfl ?_
  refine f_put0 G d_Wo_init_68 fl_Wo_39 rfl ⟨by decide, by decide⟩ rfl rfl rfl rfl (by simp [updS, hz 10]) ?_
  refine x_aload0 G d_Wo_init_71 ?_
  refine x_iconst (v := nI 0) G d_Wo_init_72 rfl ?_
  refine f_put0 G d_Wo_init_73 fl_Wo_42 rfl ⟨by decide, by decide⟩ rfl rfl rfl rfl (by simp [updS, hz 11]) ?_
  refine x_aload0 G d_Wo_init_76 ?_
  refine x_iconst (v := nI 1) G d_Wo_init_77 rfl ?_
  refine f_puti hF G d_Wo_init_78 fl_Wo_45 rfl ⟨by decide, by decide⟩ rfl rfl rfl rfl (fun hF => ?_)
  refine x_aload0 G d_Wo_init_81 ?_
  refine x_iconst (v := nI 0) G d_Wo_init_82 rfl ?_
  refine f_put0 G d_Wo_init_83 fl_Wo_48 rfl ⟨by decide, by decide⟩ rfl rfl rfl rfl (by simp [updS, hz 13]) ?_
  refine x_aload0 G d_Wo_init_86 ?_
  refine x_aload1 G d_Wo_init_87 ?_
  refine f_putr hF G d_Wo_init_88 fl_Wo_51 rfl ⟨by decide, by decide⟩ rfl (by first | exact Or.inl rfl | exact Or.inr ⟨rfl, hnm, rfl⟩) (by first | exact Or.inl ⟨_, rfl⟩ | exact Or.inr ⟨_, rfl⟩) (fun hF => ?_)
  refine x_aload0 G d_Wo_init_91 ?_
  refine x_aload2 G d_Wo_init_92 ?_
  refine f_putr hF G d_Wo_init_93 fl_Wo_55 rfl ⟨by decide, by decide⟩ rfl (by first | exact Or.inl rfl | exact Or.inr ⟨rfl, hnm, rfl⟩) (by first | exact Or.inl ⟨_, rfl⟩ | exact Or.inr ⟨_, rfl⟩) (fun hF => ?_)
  refine x_iconst (v := nI 0) G d_Wo_init_96 rfl ?_
  refine x_istore3 G d_Wo_init_97 rfl hk ?_
  refine x_iload3 G d_Wo_init_98 ?_
  refine x_bipush (v := nI 9) G d_Wo_init_99 rfl ?_
  refine x_icmp_ge G d_Wo_init_101 (fun q => absurd q (by decide +kernel)) (fun _ => ?_)
  refine x_aload0 G d_Wo_init_104 ?_
  refine f_getr G d_Wo_init_105 fl_Wo_16 rfl ⟨by decide, by decide⟩ rfl rfl ?_
  refine x_iconst (v := nI 0) G d_Wo_init_108 rfl ?_
  refine f_aald 0 G d_Wo_init_109 rfl (by decide) ⟨by decide, by decide⟩ rfl ⟨by decide, by decide⟩ rfl rfl ?_
  refine x_iload3 G d_Wo_init_110 ?_
  refine x_bipush (v := nI 8) G d_Wo_init_111 rfl ?_
  refine f_iast 0 hF G d_Wo_init_113 rfl ⟨by decide, by decide⟩ rfl ⟨by decide, by decide⟩ (fun hF => ?_)
  refine x_aload0 G d_Wo_init_114 ?_
  refine f_getr G d_Wo_init_115 fl_Wo_16 rfl ⟨by decide, by decide⟩ rfl rfl ?_
  refine x_iconst (v := nI 1) G d_Wo_init_118 rfl ?_
  refine f_aald 1 G d_Wo_init_119 rfl (by decide) ⟨by decide, by decide⟩ rfl ⟨by decide, by decide⟩ rfl rfl ?_
  refine x_iload3 G d_Wo_init_120 ?_
  refine x_bipush (v := nI 10) G d_Wo_init_121 rfl ?_
  refine f_iast 0 hF G d_Wo_init_123 rfl ⟨by decide, by decide⟩ rfl ⟨by decide, by decide⟩ (fun hF => ?_)
  refine x_aload0 G d_Wo_init_124 ?_
  refine f_getr G d_Wo_init_125 fl_Wo_16 rfl ⟨by decide, by decide⟩ rfl rfl ?_
  refine x_iconst (v := nI 2) G d_Wo_init_128 rfl ?_
  refine f_aald 2 G d_Wo_init_129 rfl (by decide) ⟨by decide, by decide⟩ rfl ⟨by decide, by decide⟩ rfl rfl ?_
  refine x_iload3 G d_Wo_init_130 ?_
  refine x_iconst (v := nI 1) G d_Wo_init_131 rfl ?_
  refine f_iast 0 hF G d_Wo_init_132 rfl ⟨by decide, by decide⟩ rfl ⟨by decide, by decide⟩ (fun hF => ?_)
  refine x_iinc3 (v := nI 1) G d_Wo_init_133 rfl hk rfl ?_
  refine x_goto G d_Wo_init_136 ?_
  refine x_iload3 G d_Wo_init_98 ?_
  refine x_bipush (v := nI 9) G d_Wo_init_99 rfl ?_
  refine x_icmp_ge G d_Wo_init_101 (fun q => absurd q (by decide +kernel)) (fun _ => ?_)
  refine x_aload0 G d_Wo_init_104 ?_
  refine f_getr G d_Wo_init_105 fl_Wo_16 rfl ⟨by decide, by decide⟩ rfl rfl ?_
  refine x_iconst (v := nI 0) G d_Wo_init_108 rfl ?_
  refine f_aald 0 G d_Wo_init_109 rfl (by decide) ⟨by decide, by decide⟩ rfl ⟨by decide, by decide⟩ rfl rfl ?_
  refine x_iload3 G d_Wo_init_110 ?_
  refine x_bipush (v := nI 8) G d_Wo_init_111 rfl ?_
  refine f_iast 1 hF G d_Wo_init_113 rfl ⟨by decide, by decide⟩ rfl ⟨by decide, by decide⟩ (fun hF => ?_)
  refine x_aload0 G d_Wo_init_114 ?_
  refine f_getr G d_Wo_init_115 fl_Wo_16 rfl ⟨by decide, by decide⟩ rfl rfl ?_
  refine x_iconst (v := nI 1) G d_Wo_init_118 rfl ?_
  refine f_aald 1 G d_Wo_init_119 rfl (by decide) ⟨by decide, by decide⟩ rfl ⟨by decide, by decide⟩ rfl rfl ?_
  refine x_iload3 G d_Wo_init_120 ?_
  refine x_bipush (v := nI 10) G d_Wo_init_121 rfl ?_
  refine f_iast 1 hF G d_Wo_init_123 rfl ⟨by decide, by decide⟩ rfl ⟨by decide, by decide⟩ (fun hF => ?_)
  refine x_aload0 G d_Wo_init_124 ?_
  refine f_getr G d_Wo_init_125 fl_Wo_16 rfl ⟨by decide, by decide⟩ rfl rfl ?_
  refine x_iconst (v := nI 2) G d_Wo_init_128 rfl ?_
  refine f_aald 2 G d_Wo_init_129 rfl (by decide) ⟨by decide, by decide⟩ rfl ⟨by decide, by decide⟩ rfl rfl ?_
  refine x_iload3 G d_Wo_init_130 ?_
  refine x_iconst (v := nI 1) G d_Wo_init_131 rfl ?_
  refine f_iast 1 hF G d_Wo_init_132 rfl ⟨by decide, by decide⟩ rfl ⟨by decide, by decide⟩ (fun hF => ?_)
  refine x_iinc3 (v := nI 2) G d_Wo_init_133 rfl hk rfl ?_
  refine x_goto G d_Wo_init_136 ?_
  refine x_iload3 G d_Wo_init_98 ?_
  refine x_bipush (v := nI 9) G d_Wo_init_99 rfl ?_
  refine x_icmp_ge G d_Wo_init_101 (fun q => absurd q (by decide +kernel)) (fun _ => ?_)
  refine x_aload0 G d_Wo_init_104 ?_
  refine f_getr G d_Wo_init_105 fl_Wo_16 rfl ⟨by decide, by decide⟩ rfl rfl ?_
  refine x_iconst (v := nI 0) G d_Wo_init_108 rfl ?_
  refine f_aald 0 G d_Wo_init_109 rfl (by decide) ⟨by decide, by decide⟩ rfl ⟨by decide, by decide⟩ rfl rfl ?_
  refine x_iload3 G d_Wo_init_110 ?_
  refine x_bipush (v := nI 8) G d_Wo_init_111 rfl ?_
  refine f_iast 2 hF G d_Wo_init_113 rfl ⟨by decide, by decide⟩ rfl ⟨by decide, by decide⟩ (fun hF => ?_)
  refine x_aload0 G d_Wo_init_114 ?_
  refine f_getr G d_Wo_init_115 fl_Wo_16 rfl ⟨by decide, by decide⟩ rfl rfl ?_
  refine x_iconst (v := nI 1) G d_Wo_init_118 rfl ?_
  refine f_aald 1 G d_Wo_init_119 rfl (by decide) ⟨by decide, by decide⟩ rfl ⟨by decide, by decide⟩ rfl rfl ?_
  refine x_iload3 G d_Wo_init_120 ?_
  refine x_bipush (v := nI 10) G d_Wo_init_121 rfl ?_
  refine f_iast 2 hF G d_Wo_init_123 rfl ⟨by decide, by decide⟩ rfl ⟨by decide, by decide⟩ (fun hF => ?_)
  refine x_aload0 G d_Wo_init_124 ?_
  refine f_getr G d_Wo_init_125 fl_Wo_16 rfl ⟨by decide, by decide⟩ rfl rfl ?_
  refine x_iconst (v := nI 2) G d_Wo_init_128 rfl ?_
  refine f_aald 2 G d_Wo_init_129 rfl (by decide) ⟨by decide, by decide⟩ rfl ⟨by decide, by decide⟩ rfl rfl ?_
  refine x_iload3 G d_Wo_init_130 ?_
  refine x_iconst (v := nI 1) G d_Wo_init_131 rfl ?_
  refine f_iast 2 hF G d_Wo_init_132 rfl ⟨by decide, by decide⟩ rfl ⟨by decide, by decide⟩ (fun hF => ?_)
  refine x_iinc3 (v := nI 3) G d_Wo_init_133 rfl hk rfl ?_
  refine x_goto G d_Wo_init_136 ?_
  refine x_iload3 G d_Wo_init_98 ?_
  refine x_bipush (v := nI 9) G d_Wo_init_99 rfl ?_
  refine x_icmp_ge G d_Wo_init_101 (fun q => absurd q (by decide +kernel)) (fun _ => ?_)
  refine x_aload0 G d_Wo_init_104 ?_
  refine f_getr G d_Wo_init_105 fl_Wo_16 rfl ⟨by decide, by decide⟩ rfl rfl ?_
  refine x_iconst (v := nI 0) G d_Wo_init_108 rfl ?_
  refine f_aald 0 G d_Wo_init_109 rfl (by decide) ⟨by decide, by decide⟩ rfl ⟨by decide, by decide⟩ rfl rfl ?_
  refine x_iload3 G d_Wo_init_110 ?_
  refine x_bipush (v := nI 8) G d_Wo_init_111 rfl ?_
  refine f_iast 3 hF G d_Wo_init_113 rfl ⟨by decide, by decide⟩ rfl ⟨by decide, by decide⟩ (fun hF => ?_)
  refine x_aload0 G d_Wo_init_114 ?_
  refine f_getr G d_Wo_init_115 fl_Wo_16 rfl ⟨by decide, by decide⟩ rfl rfl ?_
  refine x_iconst (v := nI 1) G d_Wo_init_118 rfl ?_
  refine f_aald 1 G d_Wo_init_119 rfl (by decide) ⟨by decide, by decide⟩ rfl ⟨by decide, by decide⟩ rfl rfl ?_
  refine x_iload3 G d_Wo_init_120 ?_
  refine x_bipush (v := nI 10) G d_Wo_init_121 rfl ?_
  refine f_iast 3 hF G d_Wo_init_123 rfl ⟨by decide, by decide⟩ rfl ⟨by decide, by decide⟩ (fun hF => ?_)
  refine x_aload0 G d_Wo_init_124 ?_
  refine f_getr G d_Wo_init_125 fl_Wo_16 rfl ⟨by decide, by decide⟩ rfl rfl ?_
  refine x_iconst (v := nI 2) G d_Wo_init_128 rfl ?_
  refine f_aald 2 G d_Wo_init_129 rfl (by decide) ⟨by decide, by decide⟩ rfl ⟨by decide, by decide⟩ rfl rfl ?_
  refine x_iload3 G d_Wo_init_130 ?_
  refine x_iconst (v := nI 1) G d_Wo_init_131 rfl ?_
  refine f_iast 3 hF G d_Wo_init_132 rfl ⟨by decide, by decide⟩ rfl ⟨by decide, by decide⟩ (fun hF => ?_)
  refine x_iinc3 (v := nI 4) G d_Wo_init_133 rfl hk rfl ?_
  refine x_goto G d_Wo_init_136 ?_
  refine x_iload3 G d_Wo_init_98 ?_
  refine x_bipush (v := nI 9) G d_Wo_init_99 rfl ?_
  refine x_icmp_ge G d_Wo_init_101 (fun q => absurd q (by decide +kernel)) (fun _ => ?_)
  refine x_aload0 G d_Wo_init_104 ?_
  refine f_getr G d_Wo_init_105 fl_Wo_16 rfl ⟨by decide, by decide⟩ rfl rfl ?_
  refine x_iconst (v := nI 0) G d_Wo_init_108 rfl ?_
  refine f_aald 0 G d_Wo_init_109 rfl (by decide) ⟨by decide, by decide⟩ rfl ⟨by decide, by decide⟩ rfl rfl ?_
  refine x_iload3 G d_Wo_init_110 ?_
  refine x_bipush (v := nI 8) G d_Wo_init_111 rfl ?_
  refine f_iast 4 hF G d_Wo_init_113 rfl ⟨by decide, by decide⟩ rfl ⟨by decide, by decide⟩ (fun hF => ?_)
  refine x_aload0 G d_Wo_init_114 ?_
  refine f_getr G d_Wo_init_115 fl_Wo_16 rfl ⟨by decide, by decide⟩ rfl rfl ?_
  refine x_iconst (v := nI 1) G d_Wo_init_118 rfl ?_
  refine f_aald 1 G d_Wo_init_119 rfl (by decide) ⟨by decide, by decide⟩ rfl ⟨by decide, by decide⟩ rfl rfl ?_
  refine x_iload3 G d_Wo_init_120 ?_
  refine x_bipush (v := nI 10) G d_Wo_init_121 rfl ?_
  refine f_iast 4 hF G d_Wo_init_123 rfl ⟨by decide, by decide⟩ rfl ⟨by decide, by decide⟩ (fun hF => ?_)
  refine x_aload0 G d_Wo_init_124 ?_
  refine f_getr G d_Wo_init_125 fl_Wo_16 rfl ⟨by decide, by decide⟩ rfl rfl ?_
  refine x_iconst (v := nI 2) G d_Wo_init_128 rfl ?_
  refine f_aald 2 G d_Wo_init_129 rfl (by decide) ⟨by decide, by decide⟩ rfl ⟨by decide, by decide⟩ rfl rfl ?_
  refine x_iload3 G d_Wo_init_130 ?_
  refine x_iconst (v := nI 1) G d_Wo_init_131 rfl ?_
  refine f_iast 4 hF G d_Wo_init_132 rfl ⟨by decide, by decide⟩ rfl ⟨by decide, by decide⟩ (fun hF => ?_)
  refine x_iinc3 (v := nI 5) G d_Wo_init_133 rfl hk rfl ?_
  refine x_goto G d_Wo_init_136 ?_
  refine x_iload3 G d_Wo_init_98 ?_
  refine x_bipush (v := nI 9) G d_Wo_init_99 rfl ?_
  refine x_icmp_ge G d_Wo_init_101 (fun q => absurd q (by decide +kernel)) (fun _ => ?_)
  refine x_aload0 G d_Wo_init_104 ?_
  refine f_getr G d_Wo_init_105 fl_Wo_16 rfl ⟨by decide, by decide⟩ rfl rfl ?_
  refine x_iconst (v := nI 0) G d_Wo_init_108 rfl ?_
  refine f_aald 0 G d_Wo_init_109 rfl (by decide) ⟨by decide, by decide⟩ rfl ⟨by decide, by decide⟩ rfl rfl ?_
  refine x_iload3 G d_Wo_init_110 ?_
  refine x_bipush (v := nI 8) G d_Wo_init_111 rfl ?_
  refine f_iast 5 hF G d_Wo_init_113 rfl ⟨by decide, by decide⟩ rfl ⟨by decide, by decide⟩ (fun hF => ?_)
  refine x_aload0 G d_Wo_init_114 ?_
  refine f_getr G d_Wo_init_115 fl_Wo_16 rfl ⟨by decide, by decide⟩ rfl rfl ?_
  refine x_iconst (v := nI 1) G d_Wo_init_118 rfl ?_
  refine f_aald 1 G d_Wo_init_119 rfl (by decide) ⟨by decide, by decide⟩ rfl ⟨by decide, by decide⟩ rfl rfl ?_
  refine x_iload3 G d_Wo_init_120 ?_
  refine x_bipush (v := nI 10) G d_Wo_init_121 rfl ?_
  refine f_iast 5 hF G d_Wo_init_123 rfl ⟨by decide, by decide⟩ rfl ⟨by decide, by decide⟩ (fun hF => ?_)
  refine x_aload0 G d_Wo_init_124 ?_
  refine f_getr G d_Wo_init_125 fl_Wo_16 rfl ⟨by decide, by decide⟩ rfl rfl ?_
  refine x_iconst (v := nI 2) G d_Wo_init_128 rfl ?_
  refine f_aald 2 G d_Wo_init_129 rfl (by decide) ⟨by decide, by decide⟩ rfl ⟨by decide, by decide⟩ rfl rfl ?_
  refine x_iload3 G d_Wo_init_130 ?_
  refine x_iconst (v := nI 1) G d_Wo_init_131 rfl ?_
  refine f_iast 5 hF G d_Wo_init_132 rfl ⟨by decide, by decide⟩ rfl ⟨by decide, by decide⟩ (fun hF => ?_)
  refine x_iinc3 (v := nI 6) G d_Wo_init_133 rfl hk rfl ?_
  refine x_goto G d_Wo_init_136 ?_
  refine x_iload3 G d_Wo_init_98 ?_
  refine x_bipush (v := nI 9) G d_Wo_init_99 rfl ?_
  refine x_icmp_ge G d_Wo_init_101 (fun q => absurd q (by decide +kernel)) (fun _ => ?_)
  refine x_aload0 G d_Wo_init_104 ?_
  refine f_getr G d_Wo_init_105 fl_Wo_16 rfl ⟨by decide, by decide⟩ rfl rfl ?_
  refine x_iconst (v := nI 0) G d_Wo_init_108 rfl ?_
  refine f_aald 0 G d_Wo_init_109 rfl (by decide) ⟨by decide, by decide⟩ rfl ⟨by decide, by decide⟩ rfl rfl ?_
  refine x_iload3 G d_Wo_init_110 ?_
  refine x_bipush (v := nI 8) G d_Wo_init_111 rfl ?_
  refine f_iast 6 hF G d_Wo_init_113 rfl ⟨by decide, by decide⟩ rfl ⟨by decide, by decide⟩ (fun hF => ?_)
  refine x_aload0 G d_Wo_init_114 ?_
  refine f_getr G d_Wo_init_115 fl_Wo_16 rfl ⟨by decide, by decide⟩ rfl rfl ?_
  refine x_iconst (v := nI 1) G d_Wo_init_118 rfl ?_
  refine f_aald 1 G d_Wo_init_119 rfl (by decide) ⟨by decide, by decide⟩ rfl ⟨by decide, by decide⟩ rfl rfl ?_
  refine x_iload3 G d_Wo_init_120 ?_
  refine x_bipush (v := nI 10) G d_Wo_init_121 rfl ?_
  refine f_iast 6 hF G d_Wo_init_123 rfl ⟨by decide, by decide⟩ rfl ⟨by decide, by decide⟩ (fun hF => ?_)
  refine x_aload0 G d_Wo_init_124 ?_
  refine f_getr G d_Wo_init_125 fl_Wo_16 rfl ⟨by decide, by decide⟩ rfl rfl ?_
  refine x_iconst (v := nI 2) G d_Wo_init_128 rfl ?_
  refine f_aald 2 G d_Wo_init_129 rfl (by decide) ⟨by decide, by decide⟩ rfl ⟨by decide, by decide⟩ rfl rfl ?_
  refine x_iload3 G d_Wo_init_130 ?_
  refine x_iconst (v := nI 1) G d_Wo_init_131 rfl ?_
  refine f_iast 6 hF G d_Wo_init_132 rfl ⟨by decide, by decide⟩ rfl ⟨by decide, by decide⟩ (fun hF => ?_)
  refine x_iinc3 (v := nI 7) G d_Wo_init_133 rfl hk rfl ?_
  refine x_goto G d_Wo_init_136 ?_
  refine x_iload3 G d_Wo_init_98 ?_
  refine x_bipush (v := nI 9) G d_Wo_init_99 rfl ?_
  refine x_icmp_ge G d_Wo_init_101 (fun q => absurd q (by decide +kernel)) (fun _ => ?_)
  refine x_aload0 G d_Wo_init_104 ?_
  refine f_getr G d_Wo_init_105 fl_Wo_16 rfl ⟨by decide, by decide⟩ rfl rfl ?_
  refine x_iconst (v := nI 0) G d_Wo_init_108 rfl ?_
  refine f_aald 0 G d_Wo_init_109 rfl (by decide) ⟨by decide, by decide⟩ rfl ⟨by decide, by decide⟩ rfl rfl ?_
  refine x_iload3 G d_Wo_init_110 ?_
  refine x_bipush (v := nI 8) G d_Wo_init_111 rfl ?_
  refine f_iast 7 hF G d_Wo_init_113 rfl ⟨by decide, by decide⟩ rfl ⟨by decide, by decide⟩ (fun hF => ?_)
  refine x_aload0 G d_Wo_init_114 ?_
  refine f_getr G d_Wo_init_115 fl_Wo_16 rfl ⟨by decide, by decide⟩ rfl rfl ?_
  refine x_iconst (v := nI 1) G d_Wo_init_118 rfl ?_
  refine f_aald 1 G d_Wo_init_119 rfl (by decide) ⟨by decide, by decide⟩ rfl ⟨by decide, by decide⟩ rfl rfl ?_
  refine x_iload3 G d_Wo_init_120 ?_
  refine x_bipush (v := nI 10) G d_Wo_init_121 rfl ?_
  refine f_iast 7 hF G d_Wo_init_123 rfl ⟨by decide, by decide⟩ rfl ⟨by decide, by decide⟩ (fun hF => ?_)
  refine x_aload0 G d_Wo_init_124 ?_
  refine f_getr G d_Wo_init_125 fl_Wo_16 rfl ⟨by decide, by decide⟩ rfl rfl ?_
  refine x_iconst (v := nI 2) G d_Wo_init_128 rfl ?_
  refine f_aald 2 G d_Wo_init_129 rfl (by decide) ⟨by decide, by decide⟩ rfl ⟨by decide, by decide⟩ rfl rfl ?_
  refine x_iload3 G d_Wo_init_130 ?_
  refine x_iconst (v := nI 1) G d_Wo_init_131 rfl ?_
  refine f_iast 7 hF G d_Wo_init_132 rfl ⟨by decide, by decide⟩ rfl ⟨by decide, by decide⟩ (fun hF => ?_)
  refine x_iinc3 (v := nI 8) G d_Wo_init_133 rfl hk rfl ?_
  refine x_goto G d_Wo_init_136 ?_
  refine x_iload3 G d_Wo_init_98 ?_
  refine x_bipush (v := nI 9) G d_Wo_init_99 rfl ?_
  refine x_icmp_ge G d_Wo_init_101 (fun q => absurd q (by decide +kernel)) (fun _ => ?_)
  refine x_aload0 G d_Wo_init_104 ?_
  refine f_getr G d_Wo_init_105 fl_Wo_16 rfl ⟨by decide, by decide⟩ rfl rfl ?_
  refine x_iconst (v := nI 0) G d_Wo_init_108 rfl ?_
  refine f_aald 0 G d_Wo_init_109 rfl (by decide) ⟨by decide, by decide⟩ rfl ⟨by decide, by decide⟩ rfl rfl ?_
  refine x_iload3 G d_Wo_init_110 ?_
  refine x_bipush (v := nI 8) G d_Wo_init_111 rfl ?_
  refine f_iast 8 hF G d_Wo_init_113 rfl ⟨by decide, by decide⟩ rfl ⟨by decide, by decide⟩ (fun hF => ?_)
  refine x_aload0 G d_Wo_init_114 ?_
  refine f_getr G d_Wo_init_115 fl_Wo_16 rfl ⟨by decide, by decide⟩ rfl rfl ?_
  refine x_iconst (v := nI 1) G d_Wo_init_118 rfl ?_
  refine f_aald 1 G d_Wo_init_119 rfl (by decide) ⟨by decide, by decide⟩ rfl ⟨by decide, by decide⟩ rfl rfl ?_
  refine x_iload3 G d_Wo_init_120 ?_
  refine x_bipush (v := nI 10) G d_Wo_init_121 rfl ?_
  refine f_iast 8 hF G d_Wo_init_123 rfl ⟨by decide, by decide⟩ rfl ⟨by decide, by decide⟩ (fun hF => ?_)
  refine x_aload0 G d_Wo_init_124 ?_
  refine f_getr G d_Wo_init_125 fl_Wo_16 rfl ⟨by decide, by decide⟩ rfl rfl ?_
  refine x_iconst (v := nI 2) G d_Wo_init_128 rfl ?_
  refine f_aald 2 G d_Wo_init_129 rfl (by decide) ⟨by decide, by decide⟩ rfl ⟨by decide, by decide⟩ rfl rfl ?_
  refine x_iload3 G d_Wo_init_130 ?_
  refine x_iconst (v := nI 1) G d_Wo_init_131 rfl ?_
  refine f_iast 8 hF G d_Wo_init_132 rfl ⟨by decide, by decide⟩ rfl ⟨by decide, by decide⟩ (fun hF => ?_)
  refine x_iinc3 (v := nI 9) G d_Wo_init_133 rfl hk rfl ?_
  refine x_goto G d_Wo_init_136 ?_
  refine x_iload3 G d_Wo_init_98 ?_
  refine x_bipush (v := nI 9) G d_Wo_init_99 rfl ?_
  refine x_icmp_ge G d_Wo_init_101 (fun _ => ?_) (fun q => absurd (by decide +kernel) q)
  refine x_iconst (v := nI 0) G d_Wo_init_139 rfl ?_
  refine x_istore3 G d_Wo_init_140 rfl hk ?_
  refine x_iload3 G d_Wo_init_141 ?_
  refine x_iconst (v := nI 3) G d_Wo_init_142 rfl ?_
  refine x_icmp_ge G d_Wo_init_143 (fun q => absurd q (by decide +kernel)) (fun _ => ?_)
  refine x_aload0 G d_Wo_init_146 ?_
  refine f_getr G d_Wo_init_147 fl_Wo_26 rfl ⟨by decide, by decide⟩ rfl rfl ?_
  refine x_iload3 G d_Wo_init_150 ?_
  refine x_iconst (v := (-1)) G d_Wo_init_151 rfl ?_
  refine f_iast 0 hF G d_Wo_init_152 rfl ⟨by decide, by decide⟩ rfl ⟨by decide, by decide⟩ (fun hF => ?_)
  refine x_iinc3 (v := nI 1) G d_Wo_init_153 rfl hk rfl ?_
  refine x_goto G d_Wo_init_156 ?_
  refine x_iload3 G d_Wo_init_141 ?_
  refine x_iconst (v := nI 3) G d_Wo_init_142 rfl ?_
  refine x_icmp_ge G d_Wo_init_143 (fun q => absurd q (by decide +kernel)) (fun _ => ?_)
  refine x_aload0 G d_Wo_init_146 ?_
  refine f_getr G d_Wo_init_147 fl_Wo_26 rfl ⟨by decide, by decide⟩ rfl rfl ?_
  refine x_iload3 G d_Wo_init_150 ?_
  refine x_iconst (v := (-1)) G d_Wo_init_151 rfl ?_
  refine f_iast 1 hF G d_Wo_init_152 rfl ⟨by decide, by decide⟩ rfl ⟨by decide, by decide⟩ (fun hF => ?_)
  refine x_iinc3 (v := nI 2) G d_Wo_init_153 rfl hk rfl ?_
  refine x_goto G d_Wo_init_156 ?_
  refine x_iload3 G d_Wo_init_141 ?_
  refine x_iconst (v := nI 3) G d_Wo_init_142 rfl ?_
  refine x_icmp_ge G d_Wo_init_143 (fun q => absurd q (by decide +kernel)) (fun _ => ?_)
  refine x_aload0 G d_Wo_init_146 ?_
  refine f_getr G d_Wo_init_147 fl_Wo_26 rfl ⟨by decide, by decide⟩ rfl rfl ?_
  refine x_iload3 G d_Wo_init_150 ?_
  refine x_iconst (v := (-1)) G d_Wo_init_151 rfl ?_
  refine f_iast 2 hF G d_Wo_init_152 rfl ⟨by decide, by decide⟩ rfl ⟨by decide, by decide⟩ (fun hF => ?_)
  refine x_iinc3 (v := nI 3) G d_Wo_init_153 rfl hk rfl ?_
  refine x_goto G d_Wo_init_156 ?_
  refine x_iload3 G d_Wo_init_141 ?_
  refine x_iconst (v := nI 3) G d_Wo_init_142 rfl ?_
  refine x_icmp_ge G d_Wo_init_143 (fun _ => ?_) (fun q => absurd (by decide +kernel) q)
  exact f_vret hF E G d_Wo_init_159 hx.symm rfl (by decide) (by decide +kernel)
theorem b_Ta_init_73 (g : CX) (d : Nat) (hd : 1 ≤ d) (σ : Sg) (hz : ∀ j, σ 73 j = 0) : RunF g d Ta_init [.ref 73] 73 74 σ 76 (updS σ 73 8 (nI 258)) := by
  refine RunF.of 0 (by decide +kernel) rfl (by decide) ?_
  intro κ D hg hx hk0 hnm hF G E
  subst hg
  have hk : 1 ≤ kn κ := Nat.le_of_eq hk0.symm
  show X κ 74 0 [some (.ref 73)] [] (wd D cF σ)
  refine x_aload0 G d_Ta_init_0 ?_
  refine x_obj G d_Ta_init_1 k_167 k_28 k_29 (by omega) (Nat.le_of_ble_eq_true rfl) (by decide) ?_
  refine x_aload0 G d_Ta_init_4 ?_
  refine x_bipush (v := nI 96) G d_Ta_init_5 rfl ?_
  refine f_newa (ty := 0) (len := 96) hF G d_Ta_init_7 ⟨rfl, by decide⟩ rfl k_99 rfl ⟨by decide, by decide⟩ (by rw [hx]; decide) (fun hF => ?_)
  refine f_putr hF G d_Ta_init_9 fl_Ta_9 rfl ⟨by decide, by decide⟩ rfl (by first | exact Or.inl rfl | exact Or.inr ⟨rfl, hnm, rfl⟩) (by first | exact Or.inl ⟨_, rfl⟩ | exact Or.inr ⟨_, rfl⟩) (fun hF => ?_)
  refine x_aload0 G d_Ta_init_12 ?_
  refine x_bipush (v := nI 96) G d_Ta_init_13 rfl ?_
  refine f_newa (ty := 0) (len := 96) hF G d_Ta_init_15 ⟨rfl, by decide⟩ rfl k_99 rfl ⟨by decide, by decide⟩ (by rw [hx]; decide) (fun hF => ?_)
  refine f_putr hF G d_Ta_init_17 fl_Ta_15 rfl ⟨by decide, by decide⟩ rfl (by first | exact Or.inl rfl | exact Or.inr ⟨rfl, hnm, rfl⟩) (by first | exact Or.inl ⟨_, rfl⟩ | exact Or.inr ⟨_, rfl⟩) (fun hF => ?_)
  refine x_aload0 G d_Ta_init_20 ?_
  refine x_iconst (v := nI 0) G d_Ta_init_21 rfl ?_
  refine f_put0 G d_Ta_init_22 fl_Ta_18 rfl ⟨by decide, by decide⟩ rfl rfl rfl rfl (hz 2) ?_
  refine x_aload0 G d_Ta_init_25 ?_
  refine x_iconst (v := nI 0) G d_Ta_init_26 rfl ?_
  refine f_put0 G d_Ta_init_27 fl_Ta_22 rfl ⟨by decide, by decide⟩ rfl rfl rfl rfl (hz 3) ?_
  refine x_aload0 G d_Ta_init_30 ?_
  refine x_iconst (v := nI 0) G d_Ta_init_31 rfl ?_
  refine f_put0 G d_Ta_init_32 fl_Ta_25 rfl ⟨by decide, by decide⟩ rfl rfl rfl rfl (hz 4) ?_
  refine x_aload0 G d_Ta_init_35 ?_
  refine x_iconst (v := nI 0) G d_Ta_init_36 rfl ?_
  refine f_put0 G d_Ta_init_37 fl_Ta_28 rfl ⟨by decide, by decide⟩ rfl rfl rfl rfl (hz 5) ?_
  refine x_aload0 G d_Ta_init_40 ?_
  refine x_iconst (v := nI 0) G d_Ta_init_41 rfl ?_
  refine f_put0 G d_Ta_init_42 fl_Ta_31 rfl ⟨by decide, by decide⟩ rfl rfl rfl rfl (hz 6) ?_
  refine x_aload0 G d_Ta_init_45 ?_
  refine x_iconst (v := nI 0) G d_Ta_init_46 rfl ?_
  refine f_put0 G d_Ta_init_47 fl_Ta_34 rfl ⟨by decide, by decide⟩ rfl rfl rfl rfl (hz 7) ?_
  refine x_aload0 G d_Ta_init_50 ?_
  refine x_sipush (v := nI 258) G d_Ta_init_51 rfl ?_
  refine f_puti hF G d_Ta_init_54 fl_Ta_37 rfl ⟨by decide, by decide⟩ rfl rfl rfl rfl (fun hF => ?_)
  refine x_aload0 G d_Ta_init_57 ?_
  refine x_iconst (v := nI 0) G d_Ta_init_58 rfl ?_
  refine f_put0 G d_Ta_init_59 fl_Ta_40 rfl ⟨by decide, by decide⟩ rfl rfl rfl rfl (by simp [updS, hz 9]) ?_
  exact f_vret hF E G d_Ta_init_62 hx.symm rfl (by decide) (by decide +kernel)
theorem b_Sh_init_81 (g : CX) (d : Nat) (hd : 1 ≤ d) (σ : Sg) (hz : ∀ j, σ 81 j = 0) : RunF g d Sh_init [.ref 81] 81 82 σ 84 (updS σ 81 2 (-1)) := by
  refine RunF.of 0 (by decide +kernel) rfl (by decide) ?_
  intro κ D hg hx hk0 hnm hF G E
  subst hg
  have hk : 1 ≤ kn κ := Nat.le_of_eq hk0.symm
  show X κ 82 0 [some (.ref 81)] [] (wd D cF σ)
  refine x_aload0 G d_Sh_init_0 ?_
  refine x_obj G d_Sh_init_1 k_214 k_28 k_29 (by omega) (Nat.le_of_ble_eq_true rfl) (by decide) ?_
  refine x_aload0 G d_Sh_init_4 ?_
  refine x_bipush (v := nI 24) G d_Sh_init_5 rfl ?_
  refine f_newa (ty := 0) (len := 24) hF G d_Sh_init_7 ⟨rfl, by decide⟩ rfl k_99 rfl ⟨by decide, by decide⟩ (by rw [hx]; decide) (fun hF => ?_)
  refine f_putr hF G d_Sh_init_9 fl_Sh_9 rfl ⟨by decide, by decide⟩ rfl (by first | exact Or.inl rfl | exact Or.inr ⟨rfl, hnm, rfl⟩) (by first | exact Or.inl ⟨_, rfl⟩ | exact Or.inr ⟨_, rfl⟩) (fun hF => ?_)
  refine x_aload0 G d_Sh_init_12 ?_
  refine x_bipush (v := nI 24) G d_Sh_init_13 rfl ?_
  refine f_newa (ty := 1) (len := 24) hF G d_Sh_init_15 ⟨rfl, by decide⟩ rfl k_231 rfl ⟨by decide, by decide⟩ (by rw [hx]; decide) (fun hF => ?_)
  refine f_putr hF G d_Sh_init_17 fl_Sh_15 rfl ⟨by decide, by decide⟩ rfl (by first | exact Or.inl rfl | exact Or.inr ⟨rfl, hnm, rfl⟩) (by first | exact Or.inl ⟨_, rfl⟩ | exact Or.inr ⟨_, rfl⟩) (fun hF => ?_)
  refine x_aload0 G d_Sh_init_20 ?_
  refine x_iconst (v := (-1)) G d_Sh_init_21 rfl ?_
  refine f_puti hF G d_Sh_init_22 fl_Sh_19 rfl ⟨by decide, by decide⟩ rfl rfl rfl rfl (fun hF => ?_)
  refine x_aload0 G d_Sh_init_25 ?_
  refine x_iconst (v := nI 0) G d_Sh_init_26 rfl ?_
  refine f_put0 G d_Sh_init_27 fl_Sh_23 rfl ⟨by decide, by decide⟩ rfl rfl rfl rfl (by simp [updS, hz 3]) ?_
  exact f_vret hF E G d_Sh_init_30 hx.symm rfl (by decide) (by decide +kernel)
theorem b_Sh_init_84 (g : CX) (d : Nat) (hd : 1 ≤ d) (σ : Sg) (hz : ∀ j, σ 84 j = 0) : RunF g d Sh_init [.ref 84] 84 85 σ 87 (updS σ 84 2 (-1)) := by
  refine RunF.of 0 (by decide +kernel) rfl (by decide) ?_
  intro κ D hg hx hk0 hnm hF G E
  subst hg
  have hk : 1 ≤ kn κ := Nat.le_of_eq hk0.symm
  show X κ 85 0 [some (.ref 84)] [] (wd D cF σ)
  refine x_aload0 G d_Sh_init_0 ?_
  refine x_obj G d_Sh_init_1 k_214 k_28 k_29 (by omega) (Nat.le_of_ble_eq_true rfl) (by decide) ?_
  refine x_aload0 G d_Sh_init_4 ?_
  refine x_bipush (v := nI 24) G d_Sh_init_5 rfl ?_
  refine f_newa (ty := 0) (len := 24) hF G d_Sh_init_7 ⟨rfl, by decide⟩ rfl k_99 rfl ⟨by decide, by decide⟩ (by rw [hx]; decide) (fun hF => ?_)
  refine f_putr hF G d_Sh_init_9 fl_Sh_9 rfl ⟨by decide, by decide⟩ rfl (by first | exact Or.inl rfl | exact Or.inr ⟨rfl, hnm, rfl⟩) (by first | exact Or.inl ⟨_, rfl⟩ | exact Or.inr ⟨_, rfl⟩) (fun hF => ?_)
  refine x_aload0 G d_Sh_init_12 ?_
  refine x_bipush (v := nI 24) G d_Sh_init_13 rfl ?_
  refine f_newa (ty := 1) (len := 24) hF G d_Sh_init_15 ⟨rfl, by decide⟩ rfl k_231 rfl ⟨by decide, by decide⟩ (by rw [hx]; decide) (fun hF => ?_)
  refine f_putr hF G d_Sh_init_17 fl_Sh_15 rfl ⟨by decide, by decide⟩ rfl (by first | exact Or.inl rfl | exact Or.inr ⟨rfl, hnm, rfl⟩) (by first | exact Or.inl ⟨_, rfl⟩ | exact Or.inr ⟨_, rfl⟩) (fun hF => ?_)
  refine x_aload0 G d_Sh_init_20 ?_
  refine x_iconst (v := (-1)) G d_Sh_init_21 rfl ?_
  refine f_puti hF G d_Sh_init_22 fl_Sh_19 rfl ⟨by decide, by decide⟩ rfl rfl rfl rfl (fun hF => ?_)
  refine x_aload0 G d_Sh_init_25 ?_
  refine x_iconst (v := nI 0) G d_Sh_init_26 rfl ?_
  refine f_put0 G d_Sh_init_27 fl_Sh_23 rfl ⟨by decide, by decide⟩ rfl rfl rfl rfl (by simp [updS, hz 3]) ?_
  exact f_vret hF E G d_Sh_init_30 hx.symm rfl (by decide) (by decide +kernel)
theorem b_Sh_init_87 (g : CX) (d : Nat) (hd : 1 ≤ d) (σ : Sg) (hz : ∀ j, σ 87 j = 0) : RunF g d Sh_init [.ref 87] 87 88 σ 90 (updS σ 87 2 (-1)) := by
  refine RunF.of 0 (by decide +kernel) rfl (by decide) ?_
  intro κ D hg hx hk0 hnm hF G E
  subst hg
  have hk : 1 ≤ kn κ := Nat.le_of_eq hk0.symm
  show X κ 88 0 [some (.ref 87)] [] (wd D cF σ)
  refine x_aload0 G d_Sh_init_0 ?_
  refine x_obj G d_Sh_init_1 k_214 k_28 k_29 (by omega) (Nat.le_of_ble_eq_true rfl) (by decide) ?_
  refine x_aload0 G d_Sh_init_4 ?_
  refine x_bipush (v := nI 24) G d_Sh_init_5 rfl ?_
  refine f_newa (ty := 0) (len := 24) hF G d_Sh_init_7 ⟨rfl, by decide⟩ rfl k_99 rfl ⟨by decide, by decide⟩ (by rw [hx]; decide) (fun hF => ?_)
  refine f_putr hF G d_Sh_init_9 fl_Sh_9 rfl ⟨by decide, by decide⟩ rfl (by first | exact Or.inl rfl | exact Or.inr ⟨rfl, hnm, rfl⟩) (by first | exact Or.inl ⟨_, rfl⟩ | exact Or.inr ⟨_, rfl⟩) (fun hF => ?_)
  refine x_aload0 G d_Sh_init_12 ?_
  refine x_bipush (v := nI 24) G d_Sh_init_13 rfl ?_
  refine f_newa (ty := 1) (len := 24) hF G d_Sh_init_15 ⟨rfl, by decide⟩ rfl k_231 rfl ⟨by decide, by decide⟩ (by rw [hx]; decide) (fun hF => ?_)
  refine f_putr hF G d_Sh_init_17 fl_Sh_15 rfl ⟨by decide, by decide⟩ rfl (by first | exact Or.inl rfl | exact Or.inr ⟨rfl, hnm, rfl⟩) (by first | exact Or.inl ⟨_, rfl⟩ | exact Or.inr ⟨_, rfl⟩) (fun hF => ?_)
  refine x_aload0 G d_Sh_init_20 ?_
  refine x_iconst (v := (-1)) G d_Sh_init_21 rfl ?_
  refine f_puti hF G d_Sh_init_22 fl_Sh_19 rfl ⟨by decide, by decide⟩ rfl rfl rfl rfl (fun hF => ?_)
  refine x_aload0 G d_Sh_init_25 ?_
  refine x_iconst (v := nI 0) G d_Sh_init_26 rfl ?_
  refine f_put0 G d_Sh_init_27 fl_Sh_23 rfl ⟨by decide, by decide⟩ rfl rfl rfl rfl (by simp [updS, hz 3]) ?_
  exact f_vret hF E G d_Sh_init_30 hx.symm rfl (by decide) (by decide +kernel)
theorem b_Sh_init_90 (g : CX) (d : Nat) (hd : 1 ≤ d) (σ : Sg) (hz : ∀ j, σ 90 j = 0) : RunF g d Sh_init [.ref 90] 90 91 σ 93 (updS σ 90 2 (-1)) := by
  refine RunF.of 0 (by decide +kernel) rfl (by decide) ?_
  intro κ D hg hx hk0 hnm hF G E
  subst hg
  have hk : 1 ≤ kn κ := Nat.le_of_eq hk0.symm
  show X κ 91 0 [some (.ref 90)] [] (wd D cF σ)
  refine x_aload0 G d_Sh_init_0 ?_
  refine x_obj G d_Sh_init_1 k_214 k_28 k_29 (by omega) (Nat.le_of_ble_eq_true rfl) (by decide) ?_
  refine x_aload0 G d_Sh_init_4 ?_
  refine x_bipush (v := nI 24) G d_Sh_init_5 rfl ?_
  refine f_newa (ty := 0) (len := 24) hF G d_Sh_init_7 ⟨rfl, by decide⟩ rfl k_99 rfl ⟨by decide, by decide⟩ (by rw [hx]; decide) (fun hF => ?_)
  refine f_putr hF G d_Sh_init_9 fl_Sh_9 rfl ⟨by decide, by decide⟩ rfl (by first | exact Or.inl rfl | exact Or.inr ⟨rfl, hnm, rfl⟩) (by first | exact Or.inl ⟨_, rfl⟩ | exact Or.inr ⟨_, rfl⟩) (fun hF => ?_)
  refine x_aload0 G d_Sh_init_12 ?_
  refine x_bipush (v := nI 24) G d_Sh_init_13 rfl ?_
  refine f_newa (ty := 1) (len := 24) hF G d_Sh_init_15 ⟨rfl, by decide⟩ rfl k_231 rfl ⟨by decide, by decide⟩ (by rw [hx]; decide) (fun hF => ?_)
  refine f_putr hF G d_Sh_init_17 fl_Sh_15 rfl ⟨by decide, by decide⟩ rfl (by first | exact Or.inl rfl | exact Or.inr ⟨rfl, hnm, rfl⟩) (by first | exact Or.inl ⟨_, rfl⟩ | exact Or.inr ⟨_, rfl⟩) (fun hF => ?_)
  refine x_aload0 G d_Sh_init_20 ?_
  refine x_iconst (v := (-1)) G d_Sh_init_21 rfl ?_
  refine f_puti hF G d_Sh_init_22 fl_Sh_19 rfl ⟨by decide, by decide⟩ rfl rfl rfl rfl (fun hF => ?_)
  refine x_aload0 G d_Sh_init_25 ?_
  refine x_iconst (v := nI 0) G d_Sh_init_26 rfl ?_
  refine f_put0 G d_Sh_init_27 fl_Sh_23 rfl ⟨by decide, by decide⟩ rfl rfl rfl rfl (by simp [updS, hz 3]) ?_
  exact f_vret hF E G d_Sh_init_30 hx.symm rfl (by decide) (by decide +kernel)
theorem b_Sh_init_94 (g : CX) (d : Nat) (hd : 1 ≤ d) (σ : Sg) (hz : ∀ j, σ 94 j = 0) : RunF g d Sh_init [.ref 94] 94 95 σ 97 (updS σ 94 2 (-1)) := by
  refine RunF.of 0 (by decide +kernel) rfl (by decide) ?_
  intro κ D hg hx hk0 hnm hF G E
  subst hg
  have hk : 1 ≤ kn κ := Nat.le_of_eq hk0.symm
  show X κ 95 0 [some (.ref 94)] [] (wd D cF σ)
  refine x_aload0 G d_Sh_init_0 ?_
  refine x_obj G d_Sh_init_1 k_214 k_28 k_29 (by omega) (Nat.le_of_ble_eq_true rfl) (by decide) ?_
  refine x_aload0 G d_Sh_init_4 ?_
  refine x_bipush (v := nI 24) G d_Sh_init_5 rfl ?_
  refine f_newa (ty := 0) (len := 24) hF G d_Sh_init_7 ⟨rfl, by decide⟩ rfl k_99 rfl ⟨by decide, by decide⟩ (by rw [hx]; decide) (fun hF => ?_)
  refine f_putr hF G d_Sh_init_9 fl_Sh_9 rfl ⟨by decide, by decide⟩ rfl (by first | exact Or.inl rfl | exact Or.inr ⟨rfl, hnm, rfl⟩) (by first | exact Or.inl ⟨_, rfl⟩ | exact Or.inr ⟨_, rfl⟩) (fun hF => ?_)
  refine x_aload0 G d_Sh_init_12 ?_
  refine x_bipush (v := nI 24) G d_Sh_init_13 rfl ?_
  refine f_newa (ty := 1) (len := 24) hF G d_Sh_init_15 ⟨rfl, by decide⟩ rfl k_231 rfl ⟨by decide, by decide⟩ (by rw [hx]; decide) (fun hF => ?_)
  refine f_putr hF G d_Sh_init_17 fl_Sh_15 rfl ⟨by decide, by decide⟩ rfl (by first | exact Or.inl rfl | exact Or.inr ⟨rfl, hnm, rfl⟩) (by first | exact Or.inl ⟨_, rfl⟩ | exact Or.inr ⟨_, rfl⟩) (fun hF => ?_)
  refine x_aload0 G d_Sh_init_20 ?_
  refine x_iconst (v := (-1)) G d_Sh_init_21 rfl ?_
  refine f_puti hF G d_Sh_init_22 fl_Sh_19 rfl ⟨by decide, by decide⟩ rfl rfl rfl rfl (fun hF => ?_)
  refine x_aload0 G d_Sh_init_25 ?_
  refine x_iconst (v := nI 0) G d_Sh_init_26 rfl ?_
  refine f_put0 G d_Sh_init_27 fl_Sh_23 rfl ⟨by decide, by decide⟩ rfl rfl rfl rfl (by simp [updS, hz 3]) ?_
  exact f_vret hF E G d_Sh_init_30 hx.symm rfl (by decide) (by decide +kernel)
theorem b_Sh_init_98 (g : CX) (d : Nat) (hd : 1 ≤ d) (σ : Sg) (hz : ∀ j, σ 98 j = 0) : RunF g d Sh_init [.ref 98] 98 99 σ 101 (updS σ 98 2 (-1)) := by
  refine RunF.of 0 (by decide +kernel) rfl (by decide) ?_
  intro κ D hg hx hk0 hnm hF G E
  subst hg
  have hk : 1 ≤ kn κ := Nat.le_of_eq hk0.symm
  show X κ 99 0 [some (.ref 98)] [] (wd D cF σ)
  refine x_aload0 G d_Sh_init_0 ?_
  refine x_obj G d_Sh_init_1 k_214 k_28 k_29 (by omega) (Nat.le_of_ble_eq_true rfl) (by decide) ?_
  refine x_aload0 G d_Sh_init_4 ?_
  refine x_bipush (v := nI 24) G d_Sh_init_5 rfl ?_
  refine f_newa (ty := 0) (len := 24) hF G d_Sh_init_7 ⟨rfl, by decide⟩ rfl k_99 rfl ⟨by decide, by decide⟩ (by rw [hx]; decide) (fun hF => ?_)
  refine f_putr hF G d_Sh_init_9 fl_Sh_9 rfl ⟨by decide, by decide⟩ rfl (by first | exact Or.inl rfl | exact Or.inr ⟨rfl, hnm, rfl⟩) (by first | exact Or.inl ⟨_, rfl⟩ | exact Or.inr ⟨_, rfl⟩) (fun hF => ?_)
  refine x_aload0 G d_Sh_init_12 ?_
  refine x_bipush (v := nI 24) G d_Sh_init_13 rfl ?_
  refine f_newa (ty := 1) (len := 24) hF G d_Sh_init_15 ⟨rfl, by decide⟩ rfl k_231 rfl ⟨by decide, by decide⟩ (by rw [hx]; decide) (fun hF => ?_)
  refine f_putr hF G d_Sh_init_17 fl_Sh_15 rfl ⟨by decide, by decide⟩ rfl (by first | exact Or.inl rfl | exact Or.inr ⟨rfl, hnm, rfl⟩) (by first | exact Or.inl ⟨_, rfl⟩ | exact Or.inr ⟨_, rfl⟩) (fun hF => ?_)
  refine x_aload0 G d_Sh_init_20 ?_
  refine x_iconst (v := (-1)) G d_Sh_init_21 rfl ?_
  refine f_puti hF G d_Sh_init_22 fl_Sh_19 rfl ⟨by decide, by decide⟩ rfl rfl rfl rfl (fun hF => ?_)
  refine x_aload0 G d_Sh_init_25 ?_
  refine x_iconst (v := nI 0) G d_Sh_init_26 rfl ?_
  refine f_put0 G d_Sh_init_27 fl_Sh_23 rfl ⟨by decide, by decide⟩ rfl rfl rfl rfl (by simp [updS, hz 3]) ?_
  exact f_vret hF E G d_Sh_init_30 hx.symm rfl (by decide) (by decide +kernel)
theorem b_Sh_init_102 (g : CX) (d : Nat) (hd : 1 ≤ d) (σ : Sg) (hz : ∀ j, σ 102 j = 0) : RunF g d Sh_init [.ref 102] 102 103 σ 105 (updS σ 102 2 (-1)) := by
  refine RunF.of 0 (by decide +kernel) rfl (by decide) ?_
  intro κ D hg hx hk0 hnm hF G E
  subst hg
  have hk : 1 ≤ kn κ := Nat.le_of_eq hk0.symm
  show X κ 103 0 [some (.ref 102)] [] (wd D cF σ)
  refine x_aload0 G d_Sh_init_0 ?_
  refine x_obj G d_Sh_init_1 k_214 k_28 k_29 (by omega) (Nat.le_of_ble_eq_true rfl) (by decide) ?_
  refine x_aload0 G d_Sh_init_4 ?_
  refine x_bipush (v := nI 24) G d_Sh_init_5 rfl ?_
  refine f_newa (ty := 0) (len := 24) hF G d_Sh_init_7 ⟨rfl, by decide⟩ rfl k_99 rfl ⟨by decide, by decide⟩ (by rw [hx]; decide) (fun hF => ?_)
  refine f_putr hF G d_Sh_init_9 fl_Sh_9 rfl ⟨by decide, by decide⟩ rfl (by first | exact Or.inl rfl | exact Or.inr ⟨rfl, hnm, rfl⟩) (by first | exact Or.inl ⟨_, rfl⟩ | exact Or.inr ⟨_, rfl⟩) (fun hF => ?_)
  refine x_aload0 G d_Sh_init_12 ?_
  refine x_bipush (v := nI 24) G d_Sh_init_13 rfl ?_
  refine f_newa (ty := 1) (len := 24) hF G d_Sh_init_15 ⟨rfl, by decide⟩ rfl k_231 rfl ⟨by decide, by decide⟩ (by rw [hx]; decide) (fun hF => ?_)
  refine f_putr hF G d_Sh_init_17 fl_Sh_15 rfl ⟨by decide, by decide⟩ rfl (by first | exact Or.inl rfl | exact Or.inr ⟨rfl, hnm, rfl⟩) (by first | exact Or.inl ⟨_, rfl⟩ | exact Or.inr ⟨_, rfl⟩) (fun hF => ?_)
  refine x_aload0 G d_Sh_init_20 ?_
  refine x_iconst (v := (-1)) G d_Sh_init_21 rfl ?_
  refine f_puti hF G d_Sh_init_22 fl_Sh_19 rfl ⟨by decide, by decide⟩ rfl rfl rfl rfl (fun hF => ?_)
  refine x_aload0 G d_Sh_init_25 ?_
  refine x_iconst (v := nI 0) G d_Sh_init_26 rfl ?_
  refine f_put0 G d_Sh_init_27 fl_Sh_23 rfl ⟨by decide, by decide⟩ rfl rfl rfl rfl (by simp [updS, hz 3]) ?_
  exact f_vret hF E G d_Sh_init_30 hx.symm rfl (by decide) (by decide +kernel)
theorem b_Sh_init_106 (g : CX) (d : Nat) (hd : 1 ≤ d) (σ : Sg) (hz : ∀ j, σ 106 j = 0) : RunF g d Sh_init [.ref 106] 106 107 σ 109 (updS σ 106 2 (-1)) := by
  refine RunF.of 0 (by decide +kernel) rfl (by decide) ?_
  intro κ D hg hx hk0 hnm hF G E
  subst hg
  have hk : 1 ≤ kn κ := Nat.le_of_eq hk0.symm
  show X κ 107 0 [some (.ref 106)] [] (wd D cF σ)
  refine x_aload0 G d_Sh_init_0 ?_
  refine x_obj G d_Sh_init_1 k_214 k_28 k_29 (by omega) (Nat.le_of_ble_eq_true rfl) (by decide) ?_
  refine x_aload0 G d_Sh_init_4 ?_
  refine x_bipush (v := nI 24) G d_Sh_init_5 rfl ?_
  refine f_newa (ty := 0) (len := 24) hF G d_Sh_init_7 ⟨rfl, by decide⟩ rfl k_99 rfl ⟨by decide, by decide⟩ (by rw [hx]; decide) (fun hF => ?_)
  refine f_putr hF G d_Sh_init_9 fl_Sh_9 rfl ⟨by decide, by decide⟩ rfl (by first | exact Or.inl rfl | exact Or.inr ⟨rfl, hnm, rfl⟩) (by first | exact Or.inl ⟨_, rfl⟩ | exact Or.inr ⟨_, rfl⟩) (fun hF => ?_)
  refine x_aload0 G d_Sh_init_12 ?_
  refine x_bipush (v := nI 24) G d_Sh_init_13 rfl ?_
  refine f_newa (ty := 1) (len := 24) hF G d_Sh_init_15 ⟨rfl, by decide⟩ rfl k_231 rfl ⟨by decide, by decide⟩ (by rw [hx]; decide) (fun hF => ?_)
  refine f_putr hF G d_Sh_init_17 fl_Sh_15 rfl ⟨by decide, by decide⟩ rfl (by first | exact Or.inl rfl | exact Or.inr ⟨rfl, hnm, rfl⟩) (by first | exact Or.inl ⟨_, rfl⟩ | exact Or.inr ⟨_, rfl⟩) (fun hF => ?_)
  refine x_aload0 G d_Sh_init_20 ?_
  refine x_iconst (v := (-1)) G d_Sh_init_21 rfl ?_
  refine f_puti hF G d_Sh_init_22 fl_Sh_19 rfl ⟨by decide, by decide⟩ rfl rfl rfl rfl (fun hF => ?_)
  refine x_aload0 G d_Sh_init_25 ?_
  refine x_iconst (v := nI 0) G d_Sh_init_26 rfl ?_
  refine f_put0 G d_Sh_init_27 fl_Sh_23 rfl ⟨by decide, by decide⟩ rfl rfl rfl rfl (by simp [updS, hz 3]) ?_
  exact f_vret hF E G d_Sh_init_30 hx.symm rfl (by decide) (by decide +kernel)
theorem b_Sh_init_110 (g : CX) (d : Nat) (hd : 1 ≤ d) (σ : Sg) (hz : ∀ j, σ 110 j = 0) : RunF g d Sh_init [.ref 110] 110 111 σ 113 (updS σ 110 2 (-1)) := by
  refine RunF.of 0 (by decide +kernel) rfl (by decide) ?_
  intro κ D hg hx hk0 hnm hF G E
  subst hg
  have hk : 1 ≤ kn κ := Nat.le_of_eq hk0.symm
  show X κ 111 0 [some (.ref 110)] [] (wd D cF σ)
  refine x_aload0 G d_Sh_init_0 ?_
  refine x_obj G d_Sh_init_1 k_214 k_28 k_29 (by omega) (Nat.le_of_ble_eq_true rfl) (by decide) ?_
  refine x_aload0 G d_Sh_init_4 ?_
  refine x_bipush (v := nI 24) G d_Sh_init_5 rfl ?_
  refine f_newa (ty := 0) (len := 24) hF G d_Sh_init_7 ⟨rfl, by decide⟩ rfl k_99 rfl ⟨by decide, by decide⟩ (by rw [hx]; decide) (fun hF => ?_)
  refine f_putr hF G d_Sh_init_9 fl_Sh_9 rfl ⟨by decide, by decide⟩ rfl (by first | exact Or.inl rfl | exact Or.inr ⟨rfl, hnm, rfl⟩) (by first | exact Or.inl ⟨_, rfl⟩ | exact Or.inr ⟨_, rfl⟩) (fun hF => ?_)
  refine x_aload0 G d_Sh_init_12 ?_
  refine x_bipush (v := nI 24) G d_Sh_init_13 rfl ?_
  refine f_newa (ty := 1) (len := 24) hF G d_Sh_init_15 ⟨rfl, by decide⟩ rfl k_231 rfl ⟨by decide, by decide⟩ (by rw [hx]; decide) (fun hF => ?_)
  refine f_putr hF G d_Sh_init_17 fl_Sh_15 rfl ⟨by decide, by decide⟩ rfl (by first | exact Or.inl rfl | exact Or.inr ⟨rfl, hnm, rfl⟩) (by first | exact Or.inl ⟨_, rfl⟩ | exact Or.inr ⟨_, rfl⟩) (fun hF => ?_)
  refine x_aload0 G d_Sh_init_20 ?_
  refine x_iconst (v := (-1)) G d_Sh_init_21 rfl ?_
  refine f_puti hF G d_Sh_init_22 fl_Sh_19 rfl ⟨by decide, by decide⟩ rfl rfl rfl rfl (fun hF => ?_)
  refine x_aload0 G d_Sh_init_25 ?_
  refine x_iconst (v := nI 0) G d_Sh_init_26 rfl ?_
  refine f_put0 G d_Sh_init_27 fl_Sh_23 rfl ⟨by decide, by decide⟩ rfl rfl rfl rfl (by simp [updS, hz 3]) ?_
  exact f_vret hF E G d_Sh_init_30 hx.symm rfl (by decide) (by decide +kernel)
theorem b_Sl_init_93 (g : CX) (d : Nat) (hd : 2 ≤ d) (σ : Sg) (hz : ∀ j, σ 93 j = 0) : RunF g d Sl_init [.ref 93] 93 94 σ 97 (updS σ 94 2 (-1)) := by
  refine RunF.of 0 (by decide +kernel) rfl (by decide) ?_
  intro κ D hg hx hk0 hnm hF G E
  subst hg
  have hk : 1 ≤ kn κ := Nat.le_of_eq hk0.symm
  show X κ 94 0 [some (.ref 93)] [] (wd D cF σ)
  refine x_aload0 G d_Sl_init_0 ?_
  refine x_obj G d_Sl_init_1 k_236 k_28 k_29 (by omega) (Nat.le_of_ble_eq_true rfl) (by decide) ?_
  refine x_aload0 G d_Sl_init_4 ?_
  refine f_new (ci := 10) hF G d_Sl_init_5 (by decide) rfl k_237 k_210 k_11 (by rw [hx]; decide) (by decide) (by decide +kernel) (fun hz94 hF => ?_)
  refine x_dup G d_Sl_init_8 rfl ?_
  refine f_callI (b_Sh_init_94 (kg κ) (d - 1) (by omega) σ hz94) hF G d_Sl_init_9 lk_Sl_9 ⟨by decide, by decide⟩ (by omega) rfl (Nat.le_of_ble_eq_true rfl) ⟨by decide, by rw [hx]; decide⟩ (fun hF => ?_)
  refine f_putr hF G d_Sl_init_12 fl_Sl_10 rfl ⟨by decide, by decide⟩ rfl (by first | exact Or.inl rfl | exact Or.inr ⟨rfl, hnm, rfl⟩) (by first | exact Or.inl ⟨_, rfl⟩ | exact Or.inr ⟨_, rfl⟩) (fun hF => ?_)
  refine x_aload0 G d_Sl_init_15 ?_
  refine x_iconst (v := nI 0) G d_Sl_init_16 rfl ?_
  refine f_put0 G d_Sl_init_17 fl_Sl_16 rfl ⟨by decide, by decide⟩ rfl rfl rfl rfl (by simp [updS, hz 1]) ?_
  refine x_aload0 G d_Sl_init_20 ?_
  refine x_null G d_Sl_init_21 ?_
  refine f_putn G d_Sl_init_22 fl_Sl_20 rfl ⟨by decide, by decide⟩ ⟨rfl, rfl⟩ rfl rfl (by simp [updS, hz 2]) ?_
  refine x_aload0 G d_Sl_init_25 ?_
  refine x_iconst (v := nI 0) G d_Sl_init_26 rfl ?_
  refine f_put0 G d_Sl_init_27 fl_Sl_24 rfl ⟨by decide, by decide⟩ rfl rfl rfl rfl (by simp [updS, hz 3]) ?_
  refine x_aload0 G d_Sl_init_30 ?_
  refine x_iconst (v := nI 0) G d_Sl_init_31 rfl ?_
  refine f_put0 G d_Sl_init_32 fl_Sl_27 rfl ⟨by decide, by decide⟩ rfl rfl rfl rfl (by simp [updS, hz 4]) ?_
  exact f_vret hF E G d_Sl_init_35 hx.symm rfl (by decide) (by decide +kernel)
theorem b_Sl_init_97 (g : CX) (d : Nat) (hd : 2 ≤ d) (σ : Sg) (hz : ∀ j, σ 97 j = 0) : RunF g d Sl_init [.ref 97] 97 98 σ 101 (updS σ 98 2 (-1)) := by
  refine RunF.of 0 (by decide +kernel) rfl (by decide) ?_
  intro κ D hg hx hk0 hnm hF G E
  subst hg
  have hk : 1 ≤ kn κ := Nat.le_of_eq hk0.symm
  show X κ 98 0 [some (.ref 97)] [] (wd D cF σ)
  refine x_aload0 G d_Sl_init_0 ?_
  refine x_obj G d_Sl_init_1 k_236 k_28 k_29 (by omega) (Nat.le_of_ble_eq_true rfl) (by decide) ?_
  refine x_aload0 G d_Sl_init_4 ?_
  refine f_new (ci := 10) hF G d_Sl_init_5 (by decide) rfl k_237 k_210 k_11 (by rw [hx]; decide) (by decide) (by decide +kernel) (fun hz98 hF => ?_)
  refine x_dup G d_Sl_init_8 rfl ?_
  refine f_callI (b_Sh_init_98 (kg κ) (d - 1) (by omega) σ hz98) hF G d_Sl_init_9 lk_Sl_9 ⟨by decide, by decide⟩ (by omega) rfl (Nat.le_of_ble_eq_true rfl) ⟨by decide, by rw [hx]; decide⟩ (fun hF => ?_)
  refine f_putr hF G d_Sl_init_12 fl_Sl_10 rfl ⟨by decide, by decide⟩ rfl (by first | exact Or.inl rfl | exact Or.inr ⟨rfl, hnm, rfl⟩) (by first | exact Or.inl ⟨_, rfl⟩ | exact Or.inr ⟨_, rfl⟩) (fun hF => ?_)
  refine x_aload0 G d_Sl_init_15 ?_
  refine x_iconst (v := nI 0) G d_Sl_init_16 rfl ?_
  refine f_put0 G d_Sl_init_17 fl_Sl_16 rfl ⟨by decide, by decide⟩ rfl rfl rfl rfl (by simp [updS, hz 1]) ?_
  refine x_aload0 G d_Sl_init_20 ?_
  refine x_null G d_Sl_init_21 ?_
  refine f_putn G d_Sl_init_22 fl_Sl_20 rfl ⟨by decide, by decide⟩ ⟨rfl, rfl⟩ rfl rfl (by simp [updS, hz 2]) ?_
  refine x_aload0 G d_Sl_init_25 ?_
  refine x_iconst (v := nI 0) G d_Sl_init_26 rfl ?_
  refine f_put0 G d_Sl_init_27 fl_Sl_24 rfl ⟨by decide, by decide⟩ rfl rfl rfl rfl (by simp [updS, hz 3]) ?_
  refine x_aload0 G d_Sl_init_30 ?_
  refine x_iconst (v := nI 0) G d_Sl_init_31 rfl ?_
  refine f_put0 G d_Sl_init_32 fl_Sl_27 rfl ⟨by decide, by decide⟩ rfl rfl rfl rfl (by simp [updS, hz 4]) ?_
  exact f_vret hF E G d_Sl_init_35 hx.symm rfl (by decide) (by decide +kernel)
theorem b_Sl_init_101 (g : CX) (d : Nat) (hd : 2 ≤ d) (σ : Sg) (hz : ∀ j, σ 101 j = 0) : RunF g d Sl_init [.ref 101] 101 102 σ 105 (updS σ 102 2 (-1)) := by
  refine RunF.of 0 (by decide +kernel) rfl (by decide) ?_
  intro κ D hg hx hk0 hnm hF G E
  subst hg
  have hk : 1 ≤ kn κ := Nat.le_of_eq hk0.symm
  show X κ 102 0 [some (.ref 101)] [] (wd D cF σ)
  refine x_aload0 G d_Sl_init_0 ?_
  refine x_obj G d_Sl_init_1 k_236 k_28 k_29 (by omega) (Nat.le_of_ble_eq_true rfl) (by decide) ?_
  refine x_aload0 G d_Sl_init_4 ?_
  refine f_new (ci := 10) hF G d_Sl_init_5 (by decide) rfl k_237 k_210 k_11 (by rw [hx]; decide) (by decide) (by decide +kernel) (fun hz102 hF => ?_)
  refine x_dup G d_Sl_init_8 rfl ?_
  refine f_callI (b_Sh_init_102 (kg κ) (d - 1) (by omega) σ hz102) hF G d_Sl_init_9 lk_Sl_9 ⟨by decide, by decide⟩ (by omega) rfl (Nat.le_of_ble_eq_true rfl) ⟨by decide, by rw [hx]; decide⟩ (fun hF => ?_)
  refine f_putr hF G d_Sl_init_12 fl_Sl_10 rfl ⟨by decide, by decide⟩ rfl (by first | exact Or.inl rfl | exact Or.inr ⟨rfl, hnm, rfl⟩) (by first | exact Or.inl ⟨_, rfl⟩ | exact Or.inr ⟨_, rfl⟩) (fun hF => ?_)
  refine x_aload0 G d_Sl_init_15 ?_
  refine x_iconst (v := nI 0) G d_Sl_init_16 rfl ?_
  refine f_put0 G d_Sl_init_17 fl_Sl_16 rfl ⟨by decide, by decide⟩ rfl rfl rfl rfl (by simp [updS, hz 1]) ?_
  refine x_aload0 G d_Sl_init_20 ?_
  refine x_null G d_Sl_init_21 ?_
  refine f_putn G d_Sl_init_22 fl_Sl_20 rfl ⟨by decide, by decide⟩ ⟨rfl, rfl⟩ rfl rfl (by simp [updS, hz 2]) ?_
  refine x_aload0 G d_Sl_init_25 ?_
  refine x_iconst (v := nI 0) G d_Sl_init_26 rfl ?_
  refine f_put0 G d_Sl_init_27 fl_Sl_24 rfl ⟨by decide, by decide⟩ rfl rfl rfl rfl (by simp [updS, hz 3]) ?_
  refine x_aload0 G d_Sl_init_30 ?_
  refine x_iconst (v := nI 0) G d_Sl_init_31 rfl ?_
  refine f_put0 G d_Sl_init_32 fl_Sl_27 rfl ⟨by decide, by decide⟩ rfl rfl rfl rfl (by simp [updS, hz 4]) ?_
  exact f_vret hF E G d_Sl_init_35 hx.symm rfl (by decide) (by decide +kernel)
theorem b_Sl_init_105 (g : CX) (d : Nat) (hd : 2 ≤ d) (σ : Sg) (hz : ∀ j, σ 105 j = 0) : RunF g d Sl_init [.ref 105] 105 106 σ 109 (updS σ 106 2 (-1)) := by
  refine RunF.of 0 (by decide +kernel) rfl (by decide) ?_
  intro κ D hg hx hk0 hnm hF G E
  subst hg
  have hk : 1 ≤ kn κ := Nat.le_of_eq hk0.symm
  show X κ 106 0 [some (.ref 105)] [] (wd D cF σ)
  refine x_aload0 G d_Sl_init_0 ?_
  refine x_obj G d_Sl_init_1 k_236 k_28 k_29 (by omega) (Nat.le_of_ble_eq_true rfl) (by decide) ?_
  refine x_aload0 G d_Sl_init_4 ?_
  refine f_new (ci := 10) hF G d_Sl_init_5 (by decide) rfl k_237 k_210 k_11 (by rw [hx]; decide) (by decide) (by decide +kernel) (fun hz106 hF => ?_)
  refine x_dup G d_Sl_init_8 rfl ?_
  refine f_callI (b_Sh_init_106 (kg κ) (d - 1) (by omega) σ hz106) hF G d_Sl_init_9 lk_Sl_9 ⟨by decide, by decide⟩ (by omega) rfl (Nat.le_of_ble_eq_true rfl) ⟨by decide, by rw [hx]; decide⟩ (fun hF => ?_)
  refine f_putr hF G d_Sl_init_12 fl_Sl_10 rfl ⟨by decide, by decide⟩ rfl (by first | exact Or.inl rfl | exact Or.inr ⟨rfl, hnm, rfl⟩) (by first | exact Or.inl ⟨_, rfl⟩ | exact Or.inr ⟨_, rfl⟩) (fun hF => ?_)
  refine x_aload0 G d_Sl_init_15 ?_
  refine x_iconst (v := nI 0) G d_Sl_init_16 rfl ?_
  refine f_put0 G d_Sl_init_17 fl_Sl_16 rfl ⟨by decide, by decide⟩ rfl rfl rfl rfl (by simp [updS, hz 1]) ?_
  refine x_aload0 G d_Sl_init_20 ?_
  refine x_null G d_Sl_init_21 ?_
  refine f_putn G d_Sl_init_22 fl_Sl_20 rfl ⟨by decide, by decide⟩ ⟨rfl, rfl⟩ rfl rfl (by simp [updS, hz 2]) ?_
  refine x_aload0 G d_Sl_init_25 ?_
  refine x_iconst (v := nI 0) G d_Sl_init_26 rfl ?_
  refine f_put0 G d_Sl_init_27 fl_Sl_24 rfl ⟨by decide, by decide⟩ rfl rfl rfl rfl (by simp [updS, hz 3]) ?_
  refine x_aload0 G d_Sl_init_30 ?_
  refine x_iconst (v := nI 0) G d_Sl_init_31 rfl ?_
  refine f_put0 G d_Sl_init_32 fl_Sl_27 rfl ⟨by decide, by decide⟩ rfl rfl rfl rfl (by simp [updS, hz 4]) ?_
  exact f_vret hF E G d_Sl_init_35 hx.symm rfl (by decide) (by decide +kernel)
theorem b_Sl_init_109 (g : CX) (d : Nat) (hd : 2 ≤ d) (σ : Sg) (hz : ∀ j, σ 109 j = 0) : RunF g d Sl_init [.ref 109] 109 110 σ 113 (updS σ 110 2 (-1)) := by
  refine RunF.of 0 (by decide +kernel) rfl (by decide) ?_
  intro κ D hg hx hk0 hnm hF G E
  subst hg
  have hk : 1 ≤ kn κ := Nat.le_of_eq hk0.symm
  show X κ 110 0 [some (.ref 109)] [] (wd D cF σ)
  refine x_aload0 G d_Sl_init_0 ?_
  refine x_obj G d_Sl_init_1 k_236 k_28 k_29 (by omega) (Nat.le_of_ble_eq_true rfl) (by decide) ?_
  refine x_aload0 G d_Sl_init_4 ?_
  refine f_new (ci := 10) hF G d_Sl_init_5 (by decide) rfl k_237 k_210 k_11 (by rw [hx]; decide) (by decide) (by decide +kernel) (fun hz110 hF => ?_)
  refine x_dup G d_Sl_init_8 rfl ?_
  refine f_callI (b_Sh_init_110 (kg κ) (d - 1) (by omega) σ hz110) hF G d_Sl_init_9 lk_Sl_9 ⟨by decide, by decide⟩ (by omega) rfl (Nat.le_of_ble_eq_true rfl) ⟨by decide, by rw [hx]; decide⟩ (fun hF => ?_)
  refine f_putr hF G d_Sl_init_12 fl_Sl_10 rfl ⟨by decide, by decide⟩ rfl (by first | exact Or.inl rfl | exact Or.inr ⟨rfl, hnm, rfl⟩) (by first | exact Or.inl ⟨_, rfl⟩ | exact Or.inr ⟨_, rfl⟩) (fun hF => ?_)
  refine x_aload0 G d_Sl_init_15 ?_
  refine x_iconst (v := nI 0) G d_Sl_init_16 rfl ?_
  refine f_put0 G d_Sl_init_17 fl_Sl_16 rfl ⟨by decide, by decide⟩ rfl rfl rfl rfl (by simp [updS, hz 1]) ?_
  refine x_aload0 G d_Sl_init_20 ?_
  refine x_null G d_Sl_init_21 ?_
  refine f_putn G d_Sl_init_22 fl_Sl_20 rfl ⟨by decide, by decide⟩ ⟨rfl, rfl⟩ rfl rfl (by simp [updS, hz 2]) ?_
  refine x_aload0 G d_Sl_init_25 ?_
  refine x_iconst (v := nI 0) G d_Sl_init_26 rfl ?_
  refine f_put0 G d_Sl_init_27 fl_Sl_24 rfl ⟨by decide, by decide⟩ rfl rfl rfl rfl (by simp [updS, hz 3]) ?_
  refine x_aload0 G d_Sl_init_30 ?_
  refine x_iconst (v := nI 0) G d_Sl_init_31 rfl ?_
  refine f_put0 G d_Sl_init_32 fl_Sl_27 rfl ⟨by decide, by decide⟩ rfl rfl rfl rfl (by simp [updS, hz 4]) ?_
  exact f_vret hF E G d_Sl_init_35 hx.symm rfl (by decide) (by decide +kernel)
def sgNN (σ : Sg) : Sg := updS (updS (updS (updS (updS (updS (updS (updS (updS (updS (updS (sgW58 (sgW43 (sgW28 σ))) 73 8 (nI 258)) 0 13 (-1)) 81 2 (-1)) 84 2 (-1)) 87 2 (-1)) 90 2 (-1)) 94 2 (-1)) 98 2 (-1)) 102 2 (-1)) 106 2 (-1)) 110 2 (-1)
theorem b_N_init_0 (g : CX) (d : Nat) (hd : 4 ≤ d) (σ : Sg) (hz : ∀ j, σ 0 j = 0) : RunF g d N_init [.ref 0] 0 1 σ 113 (sgNN σ) := by
  refine RunF.of 1 (by decide +kernel) rfl (by decide) ?_
  intro κ D hg hx hk0 hnm hF G E
  subst hg
  have hk : 2 ≤ kn κ := Nat.le_of_eq hk0.symm
  show X κ 1 0 [some (.ref 0), none] [] (wd D cF σ)
  refine x_aload0 G d_N_init_0 ?_
  refine x_obj G d_N_init_1 k_27 k_28 k_29 (by omega) (Nat.le_of_ble_eq_true rfl) (by decide) ?_
  refine x_aload0 G d_N_init_4 ?_
  refine x_bipush (v := nI 6) G d_N_init_5 rfl ?_
  refine f_anew (ty := 2) (len := 6) hF G d_N_init_7 ⟨rfl, by decide, by decide⟩ rfl k_30 G.hA.1 rfl (by decide) (by rw [hx]; decide) (by decide) (fun hF => ?_)
  refine x_dup G d_N_init_10 rfl ?_
  refine x_iconst (v := nI 0) G d_N_init_11 rfl ?_
  refine f_new (ci := 1) hF G d_N_init_12 (by decide) rfl k_30 k_32 k_2 (by rw [hx]; decide) (by decide) (by decide +kernel) (fun hz2 hF => ?_)
  refine x_dup G d_N_init_15 rfl ?_
  refine f_callI (b_Nb_init_2 (kg κ) (d - 1) (by omega) σ hz2) hF G d_N_init_16 lk_N_9 ⟨by decide, by decide⟩ (by omega) rfl (Nat.le_of_ble_eq_true rfl) ⟨by decide, by rw [hx]; decide⟩ (fun hF => ?_)
  refine f_aast (ci := 1) 0 hF G d_N_init_19 rfl ⟨rfl, by decide, by decide⟩ ⟨by decide, by decide⟩ ⟨by decide, rfl, by decide⟩ (Or.inl rfl) rfl ⟨by decide, by decide⟩ rfl (fun hF => ?_)
  refine x_dup G d_N_init_20 rfl ?_
  refine x_iconst (v := nI 1) G d_N_init_21 rfl ?_
  refine f_new (ci := 2) hF G d_N_init_22 (by decide) rfl k_38 k_39 k_3 (by rw [hx]; decide) (by decide) (by decide +kernel) (fun hz3 hF => ?_)
  refine x_dup G d_N_init_25 rfl ?_
  refine f_callI (b_La_init_3 (kg κ) (d - 1) (by omega) σ hz3) hF G d_N_init_26 lk_N_12 ⟨by decide, by decide⟩ (by omega) rfl (Nat.le_of_ble_eq_true rfl) ⟨by decide, by rw [hx]; decide⟩ (fun hF => ?_)
  refine f_aast (ci := 2) 1 hF G d_N_init_29 rfl ⟨rfl, by decide, by decide⟩ ⟨by decide, by decide⟩ ⟨by decide, rfl, by decide⟩ (Or.inr (G.hA.2.2.2.2 _ (by decide))) rfl ⟨by decide, by decide⟩ rfl (fun hF => ?_)
  refine x_dup G d_N_init_30 rfl ?_
  refine x_iconst (v := nI 2) G d_N_init_31 rfl ?_
  refine f_new (ci := 3) hF G d_N_init_32 (by decide) rfl k_45 k_46 k_4 (by rw [hx]; decide) (by decide) (by decide +kernel) (fun hz4 hF => ?_)
  refine x_dup G d_N_init_35 rfl ?_
  refine f_callI (b_Ru_init_4 (kg κ) (d - 1) (by omega) σ hz4) hF G d_N_init_36 lk_N_15 ⟨by decide, by decide⟩ (by omega) rfl (Nat.le_of_ble_eq_true rfl) ⟨by decide, by rw [hx]; decide⟩ (fun hF => ?_)
  refine f_aast (ci := 3) 2 hF G d_N_init_39 rfl ⟨rfl, by decide, by decide⟩ ⟨by decide, by decide⟩ ⟨by decide, rfl, by decide⟩ (Or.inr (G.hA.2.2.2.2 _ (by decide))) rfl ⟨by decide, by decide⟩ rfl (fun hF => ?_)
  refine x_dup G d_N_init_40 rfl ?_
  refine x_iconst (v := nI 3) G d_N_init_41 rfl ?_
  refine f_new (ci := 4) hF G d_N_init_42 (by decide) rfl k_52 k_53 k_5 (by rw [hx]; decide) (by decide) (by decide +kernel) (fun hz5 hF => ?_)
  refine x_dup G d_N_init_45 rfl ?_
  refine f_callI (b_Ol_init_5 (kg κ) (d - 1) (by omega) σ hz5) hF G d_N_init_46 lk_N_18 ⟨by decide, by decide⟩ (by omega) rfl (Nat.le_of_ble_eq_true rfl) ⟨by decide, by rw [hx]; decide⟩ (fun hF => ?_)
  refine f_aast (ci := 4) 3 hF G d_N_init_49 rfl ⟨rfl, by decide, by decide⟩ ⟨by decide, by decide⟩ ⟨by decide, rfl, by decide⟩ (Or.inr (G.hA.2.2.2.2 _ (by decide))) rfl ⟨by decide, by decide⟩ rfl (fun hF => ?_)
  refine x_dup G d_N_init_50 rfl ?_
  refine x_iconst (v := nI 4) G d_N_init_51 rfl ?_
  refine f_new (ci := 5) hF G d_N_init_52 (by decide) rfl k_59 k_60 k_6 (by rw [hx]; decide) (by decide) (by decide +kernel) (fun hz6 hF => ?_)
  refine x_dup G d_N_init_55 rfl ?_
  refine f_callI (b_Ch_init_6 (kg κ) (d - 1) (by omega) σ hz6) hF G d_N_init_56 lk_N_21 ⟨by decide, by decide⟩ (by omega) rfl (Nat.le_of_ble_eq_true rfl) ⟨by decide, by rw [hx]; decide⟩ (fun hF => ?_)
  refine f_aast (ci := 5) 4 hF G d_N_init_59 rfl ⟨rfl, by decide, by decide⟩ ⟨by decide, by decide⟩ ⟨by decide, rfl, by decide⟩ (Or.inr (G.hA.2.2.2.2 _ (by decide))) rfl ⟨by decide, by decide⟩ rfl (fun hF => ?_)
  refine x_dup G d_N_init_60 rfl ?_
  refine x_iconst (v := nI 5) G d_N_init_61 rfl ?_
  refine f_new (ci := 6) hF G d_N_init_62 (by decide) rfl k_66 k_67 k_7 (by rw [hx]; decide) (by decide) (by decide +kernel) (fun hz7 hF => ?_)
  refine x_dup G d_N_init_65 rfl ?_
  refine f_callI (b_He_init_7 (kg κ) (d - 1) (by omega) σ hz7) hF G d_N_init_66 lk_N_24 ⟨by decide, by decide⟩ (by omega) rfl (Nat.le_of_ble_eq_true rfl) ⟨by decide, by rw [hx]; decide⟩ (fun hF => ?_)
  refine f_aast (ci := 6) 5 hF G d_N_init_69 rfl ⟨rfl, by decide, by decide⟩ ⟨by decide, by decide⟩ ⟨by decide, rfl, by decide⟩ (Or.inr (G.hA.2.2.2.2 _ (by decide))) rfl ⟨by decide, by decide⟩ rfl (fun hF => ?_)
  refine f_putr hF G d_N_init_70 fl_N_25 rfl ⟨by decide, by decide⟩ rfl (by first | exact Or.inl rfl | exact Or.inr ⟨rfl, hnm, rfl⟩) (by first | exact Or.inl ⟨_, rfl⟩ | exact Or.inr ⟨_, rfl⟩) (fun hF => ?_)
  refine x_aload0 G d_N_init_73 ?_
  refine f_new (ci := 7) hF G d_N_init_74 (by decide) rfl k_73 k_74 k_8 (by rw [hx]; decide) (by decide) (by decide +kernel) (fun hz8 hF => ?_)
  refine x_dup G d_N_init_77 rfl ?_
  refine f_callI (b_Lw_init_8 (kg κ) (d - 1) (by omega) σ hz8) hF G d_N_init_78 lk_N_33 ⟨by decide, by decide⟩ (by omega) rfl (Nat.le_of_ble_eq_true rfl) ⟨by decide, by rw [hx]; decide⟩ (fun hF => ?_)
  refine f_putr hF G d_N_init_81 fl_N_34 rfl ⟨by decide, by decide⟩ rfl (by first | exact Or.inl rfl | exact Or.inr ⟨rfl, hnm, rfl⟩) (by first | exact Or.inl ⟨_, rfl⟩ | exact Or.inr ⟨_, rfl⟩) (fun hF => ?_)
  refine x_aload0 G d_N_init_84 ?_
  refine f_new (ci := 8) hF G d_N_init_85 (by decide) rfl k_100 k_101 k_9 (by rw [hx]; decide) (by decide) (by decide +kernel) (fun hz28 hF => ?_)
  refine x_dup G d_N_init_88 rfl ?_
  refine x_aload0 G d_N_init_89 ?_
  refine f_getr G d_N_init_90 fl_N_25 rfl ⟨by decide, by decide⟩ rfl rfl ?_
  refine x_aload0 G d_N_init_93 ?_
  refine f_getr G d_N_init_94 fl_N_34 rfl ⟨by decide, by decide⟩ rfl rfl ?_
  refine f_callI (b_Wo_init_28 (kg κ) (d - 1) (by omega) σ hz28) hF G d_N_init_97 lk_N_40 ⟨by decide, by decide⟩ (by omega) rfl (Nat.le_of_ble_eq_true rfl) ⟨by decide, by rw [hx]; decide⟩ (fun hF => ?_)
  refine f_putr hF G d_N_init_100 fl_N_43 rfl ⟨by decide, by decide⟩ rfl (by first | exact Or.inl rfl | exact Or.inr ⟨rfl, hnm, rfl⟩) (by first | exact Or.inl ⟨_, rfl⟩ | exact Or.inr ⟨_, rfl⟩) (fun hF => ?_)
  refine x_aload0 G d_N_init_103 ?_
  refine f_new (ci := 8) hF G d_N_init_104 (by decide) rfl k_100 k_101 k_9 (by rw [hx]; decide) (by decide) (by decide +kernel) (fun hz43 hF => ?_)
  refine x_dup G d_N_init_107 rfl ?_
  refine x_aload0 G d_N_init_108 ?_
  refine f_getr G d_N_init_109 fl_N_25 rfl ⟨by decide, by decide⟩ rfl rfl ?_
  refine x_aload0 G d_N_init_112 ?_
  refine f_getr G d_N_init_113 fl_N_34 rfl ⟨by decide, by decide⟩ rfl rfl ?_
  refine f_callI (b_Wo_init_43 (kg κ) (d - 1) (by omega) (sgW28 σ) hz43) hF G d_N_init_116 lk_N_40 ⟨by decide, by decide⟩ (by omega) rfl (Nat.le_of_ble_eq_true rfl) ⟨by decide, by rw [hx]; decide⟩ (fun hF => ?_)
  refine f_putr hF G d_N_init_119 fl_N_47 rfl ⟨by decide, by decide⟩ rfl (by first | exact Or.inl rfl | exact Or.inr ⟨rfl, hnm, rfl⟩) (by first | exact Or.inl ⟨_, rfl⟩ | exact Or.inr ⟨_, rfl⟩) (fun hF => ?_)
  refine x_aload0 G d_N_init_122 ?_
  refine f_new (ci := 8) hF G d_N_init_123 (by decide) rfl k_100 k_101 k_9 (by rw [hx]; decide) (by decide) (by decide +kernel) (fun hz58 hF => ?_)
  refine x_dup G d_N_init_126 rfl ?_
  refine x_aload0 G d_N_init_127 ?_
  refine f_getr G d_N_init_128 fl_N_25 rfl ⟨by decide, by decide⟩ rfl rfl ?_
  refine x_aload0 G d_N_init_131 ?_
  refine f_getr G d_N_init_132 fl_N_34 rfl ⟨by decide, by decide⟩ rfl rfl ?_
  refine f_callI (b_Wo_init_58 (kg κ) (d - 1) (by omega) (sgW43 (sgW28 σ)) hz58) hF G d_N_init_135 lk_N_40 ⟨by decide, by decide⟩ (by omega) rfl (Nat.le_of_ble_eq_true rfl) ⟨by decide, by rw [hx]; decide⟩ (fun hF => ?_)
  refine f_putr hF G d_N_init_138 fl_N_50 rfl ⟨by decide, by decide⟩ rfl (by first | exact Or.inl rfl | exact Or.inr ⟨rfl, hnm, rfl⟩) (by first | exact Or.inl ⟨_, rfl⟩ | exact Or.inr ⟨_, rfl⟩) (fun hF => ?_)
  refine x_aload0 G d_N_init_141 ?_
  refine f_new (ci := 9) hF G d_N_init_142 (by decide) rfl k_162 k_163 k_10 (by rw [hx]; decide) (by decide) (by decide +kernel) (fun hz73 hF => ?_)
  refine x_dup G d_N_init_145 rfl ?_
  refine f_callI (b_Ta_init_73 (kg κ) (d - 1) (by omega) (sgW58 (sgW43 (sgW28 σ))) hz73) hF G d_N_init_146 lk_N_55 ⟨by decide, by decide⟩ (by omega) rfl (Nat.le_of_ble_eq_true rfl) ⟨by decide, by rw [hx]; decide⟩ (fun hF => ?_)
  refine f_putr hF G d_N_init_149 fl_N_56 rfl ⟨by decide, by decide⟩ rfl (by first | exact Or.inl rfl | exact Or.inr ⟨rfl, hnm, rfl⟩) (by first | exact Or.inl ⟨_, rfl⟩ | exact Or.inr ⟨_, rfl⟩) (fun hF => ?_)
  refine x_aload0 G d_N_init_152 ?_
  refine x_iconst (v := nI 4) G d_N_init_153 rfl ?_
  refine f_anew (ty := 4) (len := 4) hF G d_N_init_154 ⟨rfl, by decide, by decide⟩ rfl k_206 G.hA.2.1 rfl (by decide) (by rw [hx]; decide) (by decide) (fun hF => ?_)
  refine f_putr hF G d_N_init_157 fl_N_62 rfl ⟨by decide, by decide⟩ rfl (by first | exact Or.inl rfl | exact Or.inr ⟨rfl, hnm, rfl⟩) (by first | exact Or.inl ⟨_, rfl⟩ | exact Or.inr ⟨_, rfl⟩) (fun hF => ?_)
  refine x_aload0 G d_N_init_160 ?_
  refine x_iconst (v := nI 5) G d_N_init_161 rfl ?_
  refine f_anew (ty := 5) (len := 5) hF G d_N_init_162 ⟨rfl, by decide, by decide⟩ rfl k_208 G.hA.2.2.1 rfl (by decide) (by rw [hx]; decide) (by decide) (fun hF => ?_)
  refine f_putr hF G d_N_init_165 fl_N_68 rfl ⟨by decide, by decide⟩ rfl (by first | exact Or.inl rfl | exact Or.inr ⟨rfl, hnm, rfl⟩) (by first | exact Or.inl ⟨_, rfl⟩ | exact Or.inr ⟨_, rfl⟩) (fun hF => ?_)
  refine x_aload0 G d_N_init_168 ?_
  refine x_bipush (v := nI 60) G d_N_init_169 rfl ?_
  refine f_newa (ty := 0) (len := 60) hF G d_N_init_171 ⟨rfl, by decide⟩ rfl k_99 rfl ⟨by decide, by decide⟩ (by rw [hx]; decide) (fun hF => ?_)
  refine f_putr hF G d_N_init_173 fl_N_72 rfl ⟨by decide, by decide⟩ rfl (by first | exact Or.inl rfl | exact Or.inr ⟨rfl, hnm, rfl⟩) (by first | exact Or.inl ⟨_, rfl⟩ | exact Or.inr ⟨_, rfl⟩) (fun hF => ?_)
  refine x_aload0 G d_N_init_176 ?_
  refine x_bipush (v := nI 64) G d_N_init_177 rfl ?_
  refine f_newa (ty := 0) (len := 64) hF G d_N_init_179 ⟨rfl, by decide⟩ rfl k_99 rfl ⟨by decide, by decide⟩ (by rw [hx]; decide) (fun hF => ?_)
  refine f_putr hF G d_N_init_181 fl_N_76 rfl ⟨by decide, by decide⟩ rfl (by first | exact Or.inl rfl | exact Or.inr ⟨rfl, hnm, rfl⟩) (by first | exact Or.inl ⟨_, rfl⟩ | exact Or.inr ⟨_, rfl⟩) (fun hF => ?_)
  refine x_aload0 G d_N_init_184 ?_
  refine x_bipush (v := nI 45) G d_N_init_185 rfl ?_
  refine f_newa (ty := 0) (len := 45) hF G d_N_init_187 ⟨rfl, by decide⟩ rfl k_99 rfl ⟨by decide, by decide⟩ (by rw [hx]; decide) (fun hF => ?_)
  refine f_putr hF G d_N_init_189 fl_N_79 rfl ⟨by decide, by decide⟩ rfl (by first | exact Or.inl rfl | exact Or.inr ⟨rfl, hnm, rfl⟩) (by first | exact Or.inl ⟨_, rfl⟩ | exact Or.inr ⟨_, rfl⟩) (fun hF => ?_)
  refine x_aload0 G d_N_init_192 ?_
  refine x_iconst (v := nI 0) G d_N_init_193 rfl ?_
  refine f_put0 G d_N_init_194 fl_N_82 rfl ⟨by decide, by decide⟩ rfl rfl rfl rfl (by simp [updS, sgW28, sgW43, sgW58, hz 11]) ?_
  refine x_aload0 G d_N_init_197 ?_
  refine x_iconst (v := nI 0) G d_N_init_198 rfl ?_
  refine f_put0 G d_N_init_199 fl_N_86 rfl ⟨by decide, by decide⟩ rfl rfl rfl rfl (by simp [updS, sgW28, sgW43, sgW58, hz 12]) ?_
  refine x_aload0 G d_N_init_202 ?_
  refine x_iconst (v := (-1)) G d_N_init_203 rfl ?_
  refine f_puti hF G d_N_init_204 fl_N_90 rfl ⟨by decide, by decide⟩ rfl rfl rfl rfl (fun hF => ?_)
  refine x_aload0 G d_N_init_207 ?_
  refine x_iconst (v := nI 0) G d_N_init_208 rfl ?_
  refine f_put0 G d_N_init_209 fl_N_93 rfl ⟨by decide, by decide⟩ rfl rfl rfl rfl (by simp [updS, sgW28, sgW43, sgW58, hz 14]) ?_
  refine x_iconst (v := nI 0) G d_N_init_212 rfl ?_
  refine x_istore1 G d_N_init_213 rfl hk ?_
  refine x_iload1 G d_N_init_214 ?_
  refine x_aload0 G d_N_init_215 ?_
  refine f_getr G d_N_init_216 fl_N_62 rfl ⟨by decide, by decide⟩ rfl rfl ?_
  refine x_alen (v := nI 4) G d_N_init_219 rfl (by decide) ⟨by decide, by decide⟩ rfl ?_
  refine x_icmp_ge G d_N_init_220 (fun q => absurd q (by decide +kernel)) (fun _ => ?_)
  refine x_aload0 G d_N_init_223 ?_
  refine f_getr G d_N_init_224 fl_N_62 rfl ⟨by decide, by decide⟩ rfl rfl ?_
  refine x_iload1 G d_N_init_227 ?_
  refine f_new (ci := 10) hF G d_N_init_228 (by decide) rfl k_206 k_210 k_11 (by rw [hx]; decide) (by decide) (by decide +kernel) (fun hz81 hF => ?_)
  refine x_dup G d_N_init_231 rfl ?_
  refine f_callI (b_Sh_init_81 (kg κ) (d - 1) (by omega) (updS (updS (sgW58 (sgW43 (sgW28 σ))) 73 8 (nI 258)) 0 13 (-1)) hz81) hF G d_N_init_232 lk_N_96 ⟨by decide, by decide⟩ (by omega) rfl (Nat.le_of_ble_eq_true rfl) ⟨by decide, by rw [hx]; decide⟩ (fun hF => ?_)
  refine f_aast (ci := 10) 0 hF G d_N_init_235 rfl ⟨rfl, by decide, by decide⟩ ⟨by decide, by decide⟩ ⟨by decide, rfl, by decide⟩ (Or.inl rfl) rfl ⟨by decide, by decide⟩ rfl (fun hF => ?_)
  refine x_iinc1 (v := nI 1) G d_N_init_236 rfl hk rfl ?_
  refine x_goto G d_N_init_239 ?_
  refine x_iload1 G d_N_init_214 ?_
  refine x_aload0 G d_N_init_215 ?_
  refine f_getr G d_N_init_216 fl_N_62 rfl ⟨by decide, by decide⟩ rfl rfl ?_
  refine x_alen (v := nI 4) G d_N_init_219 rfl (by decide) ⟨by decide, by decide⟩ rfl ?_
  refine x_icmp_ge G d_N_init_220 (fun q => absurd q (by decide +kernel)) (fun _ => ?_)
  refine x_aload0 G d_N_init_223 ?_
  refine f_getr G d_N_init_224 fl_N_62 rfl ⟨by decide, by decide⟩ rfl rfl ?_
  refine x_iload1 G d_N_init_227 ?_
  refine f_new (ci := 10) hF G d_N_init_228 (by decide) rfl k_206 k_210 k_11 (by rw [hx]; decide) (by decide) (by decide +kernel) (fun hz84 hF => ?_)
  refine x_dup G d_N_init_231 rfl ?_
  refine f_callI (b_Sh_init_84 (kg κ) (d - 1) (by omega) (updS (updS (updS (sgW58 (sgW43 (sgW28 σ))) 73 8 (nI 258)) 0 13 (-1)) 81 2 (-1)) hz84) hF G d_N_init_232 lk_N_96 ⟨by decide, by decide⟩ (by omega) rfl (Nat.le_of_ble_eq_true rfl) ⟨by decide, by rw [hx]; decide⟩ (fun hF => ?_)
  refine f_aast (ci := 10) 1 hF G d_N_init_235 rfl ⟨rfl, by decide, by decide⟩ ⟨by decide, by decide⟩ ⟨by decide, rfl, by decide⟩ (Or.inl rfl) rfl ⟨by decide, by decide⟩ rfl (fun hF => ?_)
  refine x_iinc1 (v := nI 2) G d_N_init_236 rfl hk rfl ?_
  refine x_goto G d_N_init_239 ?_
  refine x_iload1 G d_N_init_214 ?_
  refine x_aload0 G d_N_init_215 ?_
  refine f_getr G d_N_init_216 fl_N_62 rfl ⟨by decide, by decide⟩ rfl rfl ?_
  refine x_alen (v := nI 4) G d_N_init_219 rfl (by decide) ⟨by decide, by decide⟩ rfl ?_
  refine x_icmp_ge G d_N_init_220 (fun q => absurd q (by decide +kernel)) (fun _ => ?_)
  refine x_aload0 G d_N_init_223 ?_
  refine f_getr G d_N_init_224 fl_N_62 rfl ⟨by decide, by decide⟩ rfl rfl ?_
  refine x_iload1 G d_N_init_227 ?_
  refine f_new (ci := 10) hF G d_N_init_228 (by decide) rfl k_206 k_210 k_11 (by rw [hx]; decide) (by decide) (by decide +kernel) (fun hz87 hF => ?_)
  refine x_dup G d_N_init_231 rfl ?_
  refine f_callI (b_Sh_init_87 (kg κ) (d - 1) (by omega) (updS (updS (updS (updS (sgW58 (sgW43 (sgW28 σ))) 73 8 (nI 258)) 0 13 (-1)) 81 2 (-1)) 84 2 (-1)) hz87) hF G d_N_init_232 lk_N_96 ⟨by decide, by decide⟩ (by omega) rfl (Nat.le_of_ble_eq_true rfl) ⟨by decide, by rw [hx]; decide⟩ (fun hF => ?_)
  refine f_aast (ci := 10) 2 hF G d_N_init_235 rfl ⟨rfl, by decide, by decide⟩ ⟨by decide, by decide⟩ ⟨by decide, rfl, by decide⟩ (Or.inl rfl) rfl ⟨by decide, by decide⟩ rfl (fun hF => ?_)
  refine x_iinc1 (v := nI 3) G d_N_init_236 rfl hk rfl ?_
  refine x_goto G d_N_init_239 ?_
  refine x_iload1 G d_N_init_214 ?_
  refine x_aload0 G d_N_init_215 ?_
  refine f_getr G d_N_init_216 fl_N_62 rfl ⟨by decide, by decide⟩ rfl rfl ?_
  refine x_alen (v := nI 4) G d_N_init_219 rfl (by decide) ⟨by decide, by decide⟩ rfl ?_
  refine x_icmp_ge G d_N_init_220 (fun q => absurd q (by decide +kernel)) (fun _ => ?_)
  refine x_aload0 G d_N_init_223 ?_
  refine f_getr G d_N_init_224 fl_N_62 rfl ⟨by decide, by decide⟩ rfl rfl ?_
  refine x_iload1 G d_N_init_227 ?_
  refine f_new (ci := 10) hF G d_N_init_228 (by decide) rfl k_206 k_210 k_11 (by rw [hx]; decide) (by decide) (by decide +kernel) (fun hz90 hF => ?_)
  refine x_dup G d_N_init_231 rfl ?_
  refine f_callI (b_Sh_init_90 (kg κ) (d - 1) (by omega) (updS (updS (updS (updS (updS (sgW58 (sgW43 (sgW28 σ))) 73 8 (nI 258)) 0 13 (-1)) 81 2 (-1)) 84 2 (-1)) 87 2 (-1)) hz90) hF G d_N_init_232 lk_N_96 ⟨by decide, by decide⟩ (by omega) rfl (Nat.le_of_ble_eq_true rfl) ⟨by decide, by rw [hx]; decide⟩ (fun hF => ?_)
  refine f_aast (ci := 10) 3 hF G d_N_init_235 rfl ⟨rfl, by decide, by decide⟩ ⟨by decide, by decide⟩ ⟨by decide, rfl, by decide⟩ (Or.inl rfl) rfl ⟨by decide, by decide⟩ rfl (fun hF => ?_)
  refine x_iinc1 (v := nI 4) G d_N_init_236 rfl hk rfl ?_
  refine x_goto G d_N_init_239 ?_
  refine x_iload1 G d_N_init_214 ?_
  refine x_aload0 G d_N_init_215 ?_
  refine f_getr G d_N_init_216 fl_N_62 rfl ⟨by decide, by decide⟩ rfl rfl ?_
  refine x_alen (v := nI 4) G d_N_init_219 rfl (by decide) ⟨by decide, by decide⟩ rfl ?_
  refine x_icmp_ge G d_N_init_220 (fun _ => ?_) (fun q => absurd (by decide +kernel) q)
  refine x_iconst (v := nI 0) G d_N_init_242 rfl ?_
  refine x_istore1 G d_N_init_243 rfl hk ?_
  refine x_iload1 G d_N_init_244 ?_
  refine x_aload0 G d_N_init_245 ?_
  refine f_getr G d_N_init_246 fl_N_68 rfl ⟨by decide, by decide⟩ rfl rfl ?_
  refine x_alen (v := nI 5) G d_N_init_249 rfl (by decide) ⟨by decide, by decide⟩ rfl ?_
  refine x_icmp_ge G d_N_init_250 (fun q => absurd q (by decide +kernel)) (fun _ => ?_)
  refine x_aload0 G d_N_init_253 ?_
  refine f_getr G d_N_init_254 fl_N_68 rfl ⟨by decide, by decide⟩ rfl rfl ?_
  refine x_iload1 G d_N_init_257 ?_
  refine f_new (ci := 11) hF G d_N_init_258 (by decide) rfl k_208 k_232 k_12 (by rw [hx]; decide) (by decide) (by decide +kernel) (fun hz93 hF => ?_)
  refine x_dup G d_N_init_261 rfl ?_
  refine f_callI (b_Sl_init_93 (kg κ) (d - 1) (by omega) (updS (updS (updS (updS (updS (updS (sgW58 (sgW43 (sgW28 σ))) 73 8 (nI 258)) 0 13 (-1)) 81 2 (-1)) 84 2 (-1)) 87 2 (-1)) 90 2 (-1)) hz93) hF G d_N_init_262 lk_N_97 ⟨by decide, by decide⟩ (by omega) rfl (Nat.le_of_ble_eq_true rfl) ⟨by decide, by rw [hx]; decide⟩ (fun hF => ?_)
  refine f_aast (ci := 11) 0 hF G d_N_init_265 rfl ⟨rfl, by decide, by decide⟩ ⟨by decide, by decide⟩ ⟨by decide, rfl, by decide⟩ (Or.inl rfl) rfl ⟨by decide, by decide⟩ rfl (fun hF => ?_)
  refine x_iinc1 (v := nI 1) G d_N_init_266 rfl hk rfl ?_
  refine x_goto G d_N_init_269 ?_
  refine x_iload1 G d_N_init_244 ?_
  refine x_aload0 G d_N_init_245 ?_
  refine f_getr G d_N_init_246 fl_N_68 rfl ⟨by decide, by decide⟩ rfl rfl ?_
  refine x_alen (v := nI 5) G d_N_init_249 rfl (by decide) ⟨by decide, by decide⟩ rfl ?_
  refine x_icmp_ge G d_N_init_250 (fun q => absurd q (by decide +kernel)) (fun _ => ?_)
  refine x_aload0 G d_N_init_253 ?_
  refine f_getr G d_N_init_254 fl_N_68 rfl ⟨by decide, by decide⟩ rfl rfl ?_
  refine x_iload1 G d_N_init_257 ?_
  refine f_new (ci := 11) hF G d_N_init_258 (by decide) rfl k_208 k_232 k_12 (by rw [hx]; decide) (by decide) (by decide +kernel) (fun hz97 hF => ?_)
  refine x_dup G d_N_init_261 rfl ?_
  refine f_callI (b_Sl_init_97 (kg κ) (d - 1) (by omega) (updS (updS (updS (updS (updS (updS (updS (sgW58 (sgW43 (sgW28 σ))) 73 8 (nI 258)) 0 13 (-1)) 81 2 (-1)) 84 2 (-1)) 87 2 (-1)) 90 2 (-1)) 94 2 (-1)) hz97) hF G d_N_init_262 lk_N_97 ⟨by decide, by decide⟩ (by omega) rfl (Nat.le_of_ble_eq_true rfl) ⟨by decide, by rw [hx]; decide⟩ (fun hF => ?_)
  refine f_aast (ci := 11) 1 hF G d_N_init_265 rfl ⟨rfl, by decide, by decide⟩ ⟨by decide, by decide⟩ ⟨by decide, rfl, by decide⟩ (Or.inl rfl) rfl ⟨by decide, by decide⟩ rfl (fun hF => ?_)
  refine x_iinc1 (v := nI 2) G d_N_init_266 rfl hk rfl ?_
  refine x_goto G d_N_init_269 ?_
  refine x_iload1 G d_N_init_244 ?_
  refine x_aload0 G d_N_init_245 ?_
  refine f_getr G d_N_init_246 fl_N_68 rfl ⟨by decide, by decide⟩ rfl rfl ?_
  refine x_alen (v := nI 5) G d_N_init_249 rfl (by decide) ⟨by decide, by decide⟩ rfl ?_
  refine x_icmp_ge G d_N_init_250 (fun q => absurd q (by decide +kernel)) (fun _ => ?_)
  refine x_aload0 G d_N_init_253 ?_
  refine f_getr G d_N_init_254 fl_N_68 rfl ⟨by decide, by decide⟩ rfl rfl ?_
  refine x_iload1 G d_N_init_257 ?_
  refine f_new (ci := 11) hF G d_N_init_258 (by decide) rfl k_208 k_232 k_12 (by rw [hx]; decide) (by decide) (by decide +kernel) (fun hz101 hF => ?_)
  refine x_dup G d_N_init_261 rfl ?_
  refine f_callI (b_Sl_init_101 (kg κ) (d - 1) (by omega) (updS (updS (updS (updS (updS (updS (updS (updS (sgW58 (sgW43 (sgW28 σ))) 73 8 (nI 258)) 0 13 (-1)) 81 2 (-1)) 84 2 (-1)) 87 2 (-1)) 90 2 (-1)) 94 2 (-1)) 98 2 (-1)) hz101) hF G d_N_init_262 lk_N_97 ⟨by decide, by decide⟩ (by omega) rfl (Nat.le_of_ble_eq_true rfl) ⟨by decide, by rw [hx]; decide⟩ (fun hF => ?_)
  refine f_aast (ci := 11) 2 hF G d_N_init_265 rfl ⟨rfl, by decide, by decide⟩ ⟨by decide, by decide⟩ ⟨by decide, rfl, by decide⟩ (Or.inl rfl) rfl ⟨by decide, by decide⟩ rfl (fun hF => ?_)
  refine x_iinc1 (v := nI 3) G d_N_init_266 rfl hk rfl ?_
  refine x_goto G d_N_init_269 ?_
  refine x_iload1 G d_N_init_244 ?_
  refine x_aload0 G d_N_init_245 ?_
  refine f_getr G d_N_init_246 fl_N_68 rfl ⟨by decide, by decide⟩ rfl rfl ?_
  refine x_alen (v := nI 5) G d_N_init_249 rfl (by decide) ⟨by decide, by decide⟩ rfl ?_
  refine x_icmp_ge G d_N_init_250 (fun q => absurd q (by decide +kernel)) (fun _ => ?_)
  refine x_aload0 G d_N_init_253 ?_
  refine f_getr G d_N_init_254 fl_N_68 rfl ⟨by decide, by decide⟩ rfl rfl ?_
  refine x_iload1 G d_N_init_257 ?_
  refine f_new (ci := 11) hF G d_N_init_258 (by decide) rfl k_208 k_232 k_12 (by rw [hx]; decide) (by decide) (by decide +kernel) (fun hz105 hF => ?_)
  refine x_dup G d_N_init_261 rfl ?_
  refine f_callI (b_Sl_init_105 (kg κ) (d - 1) (by omega) (updS (updS (updS (updS (updS (updS (updS (updS (updS (sgW58 (sgW43 (sgW28 σ))) 73 8 (nI 258)) 0 13 (-1)) 81 2 (-1)) 84 2 (-1)) 87 2 (-1)) 90 2 (-1)) 94 2 (-1)) 98 2 (-1)) 102 2 (-1)) hz105) hF G d_N_init_262 lk_N_97 ⟨by decide, by decide⟩ (by omega) rfl (Nat.le_of_ble_eq_true rfl) ⟨by decide, by rw [hx]; decide⟩ (fun hF => ?_)
  refine f_aast (ci := 11) 3 hF G d_N_init_265 rfl ⟨rfl, by decide, by decide⟩ ⟨by decide, by decide⟩ ⟨by decide, rfl, by decide⟩ (Or.inl rfl) rfl ⟨by decide, by decide⟩ rfl (fun hF => ?_)
  refine x_iinc1 (v := nI 4) G d_N_init_266 rfl hk rfl ?_
  refine x_goto G d_N_init_269 ?_
  refine x_iload1 G d_N_init_244 ?_
  refine x_aload0 G d_N_init_245 ?_
  refine f_getr G d_N_init_246 fl_N_68 rfl ⟨by decide, by decide⟩ rfl rfl ?_
  refine x_alen (v := nI 5) G d_N_init_249 rfl (by decide) ⟨by decide, by decide⟩ rfl ?_
  refine x_icmp_ge G d_N_init_250 (fun q => absurd q (by decide +kernel)) (fun _ => ?_)
  refine x_aload0 G d_N_init_253 ?_
  refine f_getr G d_N_init_254 fl_N_68 rfl ⟨by decide, by decide⟩ rfl rfl ?_
  refine x_iload1 G d_N_init_257 ?_
  refine f_new (ci := 11) hF G d_N_init_258 (by decide) rfl k_208 k_232 k_12 (by rw [hx]; decide) (by decide) (by decide +kernel) (fun hz109 hF => ?_)
  refine x_dup G d_N_init_261 rfl ?_
  refine f_callI (b_Sl_init_109 (kg κ) (d - 1) (by omega) (updS (updS (updS (updS (updS (updS (updS (updS (updS (updS (sgW58 (sgW43 (sgW28 σ))) 73 8 (nI 258)) 0 13 (-1)) 81 2 (-1)) 84 2 (-1)) 87 2 (-1)) 90 2 (-1)) 94 2 (-1)) 98 2 (-1)) 102 2 (-1)) 106 2 (-1)) hz109) hF G d_N_init_262 lk_N_97 ⟨by decide, by decide⟩ (by omega) rfl (Nat.le_of_ble_eq_true rfl) ⟨by decide, by rw [hx]; decide⟩ (fun hF => ?_)
  refine f_aast (ci := 11) 4 hF G d_N_init_265 rfl ⟨rfl, by decide, by decide⟩ ⟨by decide, by decide⟩ ⟨by decide, rfl, by decide⟩ (Or.inl rfl) rfl ⟨by decide, by decide⟩ rfl (fun hF => ?_)
  refine x_iinc1 (v := nI 5) G d_N_init_266 rfl hk rfl ?_
  refine x_goto G d_N_init_269 ?_
  refine x_iload1 G d_N_init_244 ?_
  refine x_aload0 G d_N_init_245 ?_
  refine f_getr G d_N_init_246 fl_N_68 rfl ⟨by decide, by decide⟩ rfl rfl ?_
  refine x_alen (v := nI 5) G d_N_init_249 rfl (by decide) ⟨by decide, by decide⟩ rfl ?_
  refine x_icmp_ge G d_N_init_250 (fun _ => ?_) (fun q => absurd (by decide +kernel) q)
  exact f_vret hF E G d_N_init_272 hx.symm rfl (by decide) (by decide +kernel)
