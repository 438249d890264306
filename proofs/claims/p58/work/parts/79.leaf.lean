/-! The constructors: those without loops. -/
/-- at q lies the cell c, as far as the machine sees -/
def AT (G : RG) (q : Nat) (c : RC) : Prop := ∃ c', G q = some c' ∧ CE c' c
theorem AT.fr {G G' : RG} {q : Nat} {c : RC} (h : AT G q c) (e : G' q = G q) : AT G' q c := by
  obtain ⟨c', h1, h2⟩ := h
  exact ⟨c', e.trans h1, h2⟩
/-- what a constructor of the object o has made: n cells -/
def PI (G : RG) (o n : Nat) (cells : Nat → RC) : RO → RM → Prop := fun r M' => r = rV ∧ M'.2 = o + n ∧ (∀ i, i < n → AT M'.1 (o + i) (cells i)) ∧ ∀ q, q < o → M'.1 q = G q
def zA (ei n : Nat) : RC := (true, ei, n, fun _ => .inl (.int 0))
def iF (h : Nat → Int32) : Nat → RV := fun k => .inl (.int (h k))
def prophC : RC := (false, 5, 0, iF (fun k => if k = 3 then -1 else 0))
def owlC : RC := (false, 4, 0, iF (fun _ => 0))
def stepC : RC := (false, 10, 0, iF (fun k => if k = 4 then -1 else 0))
def namesC (o : Nat) : Nat → RC
  | 0 => (false, 3, 0, fun k => if k = 0 then .inr (0, o + 1) else .inl (.int 0))
  | _ => zA 0 8
def textC (o : Nat) : Nat → RC
  | 0 => (false, 11, 0, fun k => if k = 0 then .inr (0, o + 1) else .inl (.int 0))
  | _ => zA 0 800
def setupC (o : Nat) : Nat → RC
  | 0 => (false, 7, 0, fun k => if k = 5 then .inr (0, o + 1) else if k = 6 then .inr (0, o + 3) else if k = 7 then .inr (0, o + 5) else if k = 8 then .inr (0, o + 7) else if k = 9 then .inr (0, o + 8) else if k = 10 then .inr (0, o + 9) else .inl (.int 0))
  | 1 => namesC (o + 1) 0
  | 2 => namesC (o + 1) 1
  | 3 => namesC (o + 3) 0
  | 4 => namesC (o + 3) 1
  | 5 => namesC (o + 5) 0
  | 6 => namesC (o + 5) 1
  | 9 => zA 0 5
  | _ => zA 0 8
section Leaf
variable {g : GL} {G : RG} {o : Nat}
set_option maxRecDepth 100000 in
set_option maxHeartbeats 4000000 in
theorem M_Prophecy_init (d : Nat) {f : Nat → RV} (ho : G o = some (false, 5, 0, f)) : Mt g d m_Prophecy_init [.inr (0, o)] (G, o + 1) 0 0 (PI G o 1 (fun _ => prophC)) := by
  refine Mt.of9 [some (.inr (0, o))] (by decide +kernel) rfl rfl rfl rfl ?_
  refine ev_aload_n (k0 := 0) rfl d_Prophecy_init_0 ?_
  refine ev_objInit (Nat.le_of_ble_eq_true rfl) oj_Prophecy_3 oi_1 oi_2 d_Prophecy_init_1 ?_
  refine ev_aload_n (k0 := 0) rfl d_Prophecy_init_4 ?_
  refine cw_iconst 0 d_Prophecy_init_5 rfl ?_
  refine ev_putf (M := (G, 0)) fl_Prophecy_9_5 (ho) (show okv g .int _ from okv_int) d_Prophecy_init_6 ?_
  refine ev_aload_n (k0 := 0) rfl d_Prophecy_init_9 ?_
  refine cw_iconst 0 d_Prophecy_init_10 rfl ?_
  refine ev_putf (M := (G, 0)) fl_Prophecy_15_5 (wrG_S) (show okv g .int _ from okv_int) d_Prophecy_init_11 ?_
  refine ev_aload_n (k0 := 0) rfl d_Prophecy_init_14 ?_
  refine cw_iconst 0 d_Prophecy_init_15 rfl ?_
  refine ev_putf (M := (G, 0)) fl_Prophecy_18_5 (wrG_S) (show okv g .int _ from okv_int) d_Prophecy_init_16 ?_
  refine ev_aload_n (k0 := 0) rfl d_Prophecy_init_19 ?_
  refine cw_iconst (-1) d_Prophecy_init_20 rfl ?_
  refine ev_putf (M := (G, 0)) fl_Prophecy_21_5 (wrG_S) (show okv g .int _ from okv_int) d_Prophecy_init_21 ?_
  refine ev_aload_n (k0 := 0) rfl d_Prophecy_init_24 ?_
  refine cw_iconst 0 d_Prophecy_init_25 rfl ?_
  refine ev_putf (M := (G, 0)) fl_Prophecy_24_5 (wrG_S) (show okv g .int _ from okv_int) d_Prophecy_init_26 ?_
  refine ev_aload_n (k0 := 0) rfl d_Prophecy_init_29 ?_
  refine cw_iconst 0 d_Prophecy_init_30 rfl ?_
  refine ev_putf (M := (G, 0)) fl_Prophecy_27_5 (wrG_S) (show okv g .int _ from okv_int) d_Prophecy_init_31 ?_
  refine ev_aload_n (k0 := 0) rfl d_Prophecy_init_34 ?_
  refine cw_iconst 0 d_Prophecy_init_35 rfl ?_
  refine ev_putf (M := (G, 0)) fl_Prophecy_30_5 (wrG_S) (show okv g .int _ from okv_int) d_Prophecy_init_36 ?_
  refine ev_aload_n (k0 := 0) rfl d_Prophecy_init_39 ?_
  refine cw_iconst 0 d_Prophecy_init_40 rfl ?_
  refine ev_putf (M := (G, 0)) fl_Prophecy_33_5 (wrG_S) (show okv g .int _ from okv_int) d_Prophecy_init_41 ?_
  refine ev_aload_n (k0 := 0) rfl d_Prophecy_init_44 ?_
  refine cw_iconst 0 d_Prophecy_init_45 rfl ?_
  refine ev_putf (M := (G, 0)) fl_Prophecy_36_5 (wrG_S) (show okv g .int _ from okv_int) d_Prophecy_init_46 ?_
  refine ev_aload_n (k0 := 0) rfl d_Prophecy_init_49 ?_
  refine cw_iconst 0 d_Prophecy_init_50 rfl ?_
  refine ev_putf (M := (G, 0)) fl_Prophecy_39_5 (wrG_S) (show okv g .int _ from okv_int) d_Prophecy_init_51 ?_
  refine ev_return (st := []) rfl d_Prophecy_init_54 ⟨rfl, rfl, fun i hi => ?_, fun q hq => ?_⟩
  · rcases (show i = 0 by omega) with rfl
    · exact ⟨_, wrG_S, rfl, rfl, rfl, fun k hk => by
      replace hk : k < 10 := hk
      rcases (show k = 0 ∨ k = 1 ∨ k = 2 ∨ k = 3 ∨ k = 4 ∨ k = 5 ∨ k = 6 ∨ k = 7 ∨ k = 8 ∨ k = 9 by omega) with rfl | rfl | rfl | rfl | rfl | rfl | rfl | rfl | rfl | rfl <;> rfl⟩
  · exact (wrG_N (by omega)).trans ((wrG_N (by omega)).trans ((wrG_N (by omega)).trans ((wrG_N (by omega)).trans ((wrG_N (by omega)).trans ((wrG_N (by omega)).trans ((wrG_N (by omega)).trans ((wrG_N (by omega)).trans ((wrG_N (by omega)).trans ((wrG_N (by omega)).trans (rfl))))))))))
set_option maxRecDepth 100000 in
set_option maxHeartbeats 4000000 in
theorem M_Owl_init (d : Nat) {f : Nat → RV} (ho : G o = some (false, 4, 0, f)) : Mt g d m_Owl_init [.inr (0, o)] (G, o + 1) 0 0 (PI G o 1 (fun _ => owlC)) := by
  refine Mt.of9 [some (.inr (0, o))] (by decide +kernel) rfl rfl rfl rfl ?_
  refine ev_aload_n (k0 := 0) rfl d_Owl_init_0 ?_
  refine ev_objInit (Nat.le_of_ble_eq_true rfl) oj_Owl_3 oi_1 oi_2 d_Owl_init_1 ?_
  refine ev_aload_n (k0 := 0) rfl d_Owl_init_4 ?_
  refine cw_iconst 0 d_Owl_init_5 rfl ?_
  refine ev_putf (M := (G, 0)) fl_Owl_9_4 (ho) (show okv g .int _ from okv_int) d_Owl_init_6 ?_
  refine ev_aload_n (k0 := 0) rfl d_Owl_init_9 ?_
  refine cw_iconst 0 d_Owl_init_10 rfl ?_
  refine ev_putf (M := (G, 0)) fl_Owl_15_4 (wrG_S) (show okv g .int _ from okv_int) d_Owl_init_11 ?_
  refine ev_aload_n (k0 := 0) rfl d_Owl_init_14 ?_
  refine cw_iconst 0 d_Owl_init_15 rfl ?_
  refine ev_putf (M := (G, 0)) fl_Owl_18_4 (wrG_S) (show okv g .int _ from okv_int) d_Owl_init_16 ?_
  refine ev_aload_n (k0 := 0) rfl d_Owl_init_19 ?_
  refine cw_iconst 0 d_Owl_init_20 rfl ?_
  refine ev_putf (M := (G, 0)) fl_Owl_21_4 (wrG_S) (show okv g .int _ from okv_int) d_Owl_init_21 ?_
  refine ev_aload_n (k0 := 0) rfl d_Owl_init_24 ?_
  refine cw_iconst 0 d_Owl_init_25 rfl ?_
  refine ev_putf (M := (G, 0)) fl_Owl_24_4 (wrG_S) (show okv g .boolean _ from okv_bool (by decide)) d_Owl_init_26 ?_
  refine ev_return (st := []) rfl d_Owl_init_29 ⟨rfl, rfl, fun i hi => ?_, fun q hq => ?_⟩
  · rcases (show i = 0 by omega) with rfl
    · exact ⟨_, wrG_S, rfl, rfl, rfl, fun k hk => by
      replace hk : k < 5 := hk
      rcases (show k = 0 ∨ k = 1 ∨ k = 2 ∨ k = 3 ∨ k = 4 by omega) with rfl | rfl | rfl | rfl | rfl <;> rfl⟩
  · exact (wrG_N (by omega)).trans ((wrG_N (by omega)).trans ((wrG_N (by omega)).trans ((wrG_N (by omega)).trans ((wrG_N (by omega)).trans (rfl)))))
set_option maxRecDepth 100000 in
set_option maxHeartbeats 4000000 in
theorem M_Step_init (d : Nat) {f : Nat → RV} (ho : G o = some (false, 10, 0, f)) : Mt g d m_Step_init [.inr (0, o)] (G, o + 1) 0 0 (PI G o 1 (fun _ => stepC)) := by
  refine Mt.of9 [some (.inr (0, o))] (by decide +kernel) rfl rfl rfl rfl ?_
  refine ev_aload_n (k0 := 0) rfl d_Step_init_0 ?_
  refine ev_objInit (Nat.le_of_ble_eq_true rfl) oj_Step_3 oi_1 oi_2 d_Step_init_1 ?_
  refine ev_aload_n (k0 := 0) rfl d_Step_init_4 ?_
  refine cw_iconst 0 d_Step_init_5 rfl ?_
  refine ev_putf (M := (G, 0)) fl_Step_11_10 (ho) (show okv g .int _ from okv_int) d_Step_init_6 ?_
  refine ev_aload_n (k0 := 0) rfl d_Step_init_9 ?_
  refine cw_iconst 0 d_Step_init_10 rfl ?_
  refine ev_putf (M := (G, 0)) fl_Step_15_10 (wrG_S) (show okv g .int _ from okv_int) d_Step_init_11 ?_
  refine ev_aload_n (k0 := 0) rfl d_Step_init_14 ?_
  refine cw_iconst 0 d_Step_init_15 rfl ?_
  refine ev_putf (M := (G, 0)) fl_Step_18_10 (wrG_S) (show okv g .int _ from okv_int) d_Step_init_16 ?_
  refine ev_aload_n (k0 := 0) rfl d_Step_init_19 ?_
  refine cw_iconst 0 d_Step_init_20 rfl ?_
  refine ev_putf (M := (G, 0)) fl_Step_21_10 (wrG_S) (show okv g .int _ from okv_int) d_Step_init_21 ?_
  refine ev_aload_n (k0 := 0) rfl d_Step_init_24 ?_
  refine cw_iconst (-1) d_Step_init_25 rfl ?_
  refine ev_putf (M := (G, 0)) fl_Step_24_10 (wrG_S) (show okv g .int _ from okv_int) d_Step_init_26 ?_
  refine ev_aload_n (k0 := 0) rfl d_Step_init_29 ?_
  refine cw_iconst 0 d_Step_init_30 rfl ?_
  refine ev_putf (M := (G, 0)) fl_Step_27_10 (wrG_S) (show okv g .int _ from okv_int) d_Step_init_31 ?_
  refine ev_aload_n (k0 := 0) rfl d_Step_init_34 ?_
  refine cw_iconst 0 d_Step_init_35 rfl ?_
  refine ev_putf (M := (G, 0)) fl_Step_30_10 (wrG_S) (show okv g .int _ from okv_int) d_Step_init_36 ?_
  refine ev_aload_n (k0 := 0) rfl d_Step_init_39 ?_
  refine cw_iconst 0 d_Step_init_40 rfl ?_
  refine ev_putf (M := (G, 0)) fl_Step_33_10 (wrG_S) (show okv g .int _ from okv_int) d_Step_init_41 ?_
  refine ev_aload_n (k0 := 0) rfl d_Step_init_44 ?_
  refine cw_iconst 0 d_Step_init_45 rfl ?_
  refine ev_putf (M := (G, 0)) fl_Step_36_10 (wrG_S) (show okv g .int _ from okv_int) d_Step_init_46 ?_
  refine ev_aload_n (k0 := 0) rfl d_Step_init_49 ?_
  refine cw_iconst 0 d_Step_init_50 rfl ?_
  refine ev_putf (M := (G, 0)) fl_Step_39_10 (wrG_S) (show okv g .int _ from okv_int) d_Step_init_51 ?_
  refine ev_aload_n (k0 := 0) rfl d_Step_init_54 ?_
  refine cw_iconst 0 d_Step_init_55 rfl ?_
  refine ev_putf (M := (G, 0)) fl_Step_42_10 (wrG_S) (show okv g .int _ from okv_int) d_Step_init_56 ?_
  refine ev_return (st := []) rfl d_Step_init_59 ⟨rfl, rfl, fun i hi => ?_, fun q hq => ?_⟩
  · rcases (show i = 0 by omega) with rfl
    · exact ⟨_, wrG_S, rfl, rfl, rfl, fun k hk => by
      replace hk : k < 11 := hk
      rcases (show k = 0 ∨ k = 1 ∨ k = 2 ∨ k = 3 ∨ k = 4 ∨ k = 5 ∨ k = 6 ∨ k = 7 ∨ k = 8 ∨ k = 9 ∨ k = 10 by omega) with rfl | rfl | rfl | rfl | rfl | rfl | rfl | rfl | rfl | rfl | rfl <;> rfl⟩
  · exact (wrG_N (by omega)).trans ((wrG_N (by omega)).trans ((wrG_N (by omega)).trans ((wrG_N (by omega)).trans ((wrG_N (by omega)).trans ((wrG_N (by omega)).trans ((wrG_N (by omega)).trans ((wrG_N (by omega)).trans ((wrG_N (by omega)).trans ((wrG_N (by omega)).trans ((wrG_N (by omega)).trans (rfl)))))))))))
set_option maxRecDepth 100000 in
set_option maxHeartbeats 4000000 in
theorem M_Names_init (d : Nat) {f : Nat → RV} (ho : G o = some (false, 3, 0, f)) : Mt g d m_Names_init [.inr (0, o)] (G, o + 1) 1 8 (PI G o 2 (namesC o)) := by
  refine Mt.of9 [some (.inr (0, o))] (by decide +kernel) rfl rfl rfl rfl ?_
  refine ev_aload_n (k0 := 0) rfl d_Names_init_0 ?_
  refine ev_objInit (Nat.le_of_ble_eq_true rfl) oj_Names_3 oi_1 oi_2 d_Names_init_1 ?_
  refine ev_aload_n (k0 := 0) rfl d_Names_init_4 ?_
  refine cw_bipush 8 d_Names_init_5 rfl ?_
  refine Ev.room (mc := 0 + 1) (ms := 0 + 8) (ev_newa (M := (G, 0)) (ei := 0) (n := 8) (at0 := .int) (ty := .int) rfl rfl (by decide) ac_int (by decide) (by decide) (by decide) d_Names_init_7 ?_) (by omega) (by omega)
  refine ev_putfF (M := (G, 0)) fl_Names_9_3 rfl ((wrG_N (by omega)).trans (ho)) (show okv g (.array .int) _ from okv_arr) d_Names_init_9 ?_
  refine ev_aload_n (k0 := 0) rfl d_Names_init_12 ?_
  refine cw_iconst 0 d_Names_init_13 rfl ?_
  refine ev_putf (M := (G, 0)) fl_Names_15_3 (wrG_S) (show okv g .int _ from okv_int) d_Names_init_14 ?_
  refine ev_return (st := []) rfl d_Names_init_17 ⟨rfl, rfl, fun i hi => ?_, fun q hq => ?_⟩
  · rcases (show i = 0 ∨ i = 1 by omega) with rfl | rfl
    · exact ⟨_, wrG_S, rfl, rfl, rfl, fun k hk => by
      replace hk : k < 2 := hk
      rcases (show k = 0 ∨ k = 1 by omega) with rfl | rfl <;> rfl⟩
    · exact ⟨_, (wrG_N (by omega)).trans ((wrG_N (by omega)).trans (wrG_S)), CE.rf⟩
  · exact (wrG_N (by omega)).trans ((wrG_N (by omega)).trans ((wrG_N (by omega)).trans (rfl)))
set_option maxRecDepth 100000 in
set_option maxHeartbeats 4000000 in
theorem M_Text_init (d : Nat) {f : Nat → RV} (ho : G o = some (false, 11, 0, f)) : Mt g d m_Text_init [.inr (0, o)] (G, o + 1) 1 800 (PI G o 2 (textC o)) := by
  refine Mt.of9 [some (.inr (0, o))] (by decide +kernel) rfl rfl rfl rfl ?_
  refine ev_aload_n (k0 := 0) rfl d_Text_init_0 ?_
  refine ev_objInit (Nat.le_of_ble_eq_true rfl) oj_Text_3 oi_1 oi_2 d_Text_init_1 ?_
  refine ev_aload_n (k0 := 0) rfl d_Text_init_4 ?_
  refine cw_sipush 800 d_Text_init_5 rfl ?_
  refine Ev.room (mc := 0 + 1) (ms := 0 + 800) (ev_newa (M := (G, 0)) (ei := 0) (n := 800) (at0 := .int) (ty := .int) rfl rfl (by decide) ac_int (by decide) (by decide) (by decide) d_Text_init_8 ?_) (by omega) (by omega)
  refine ev_putfF (M := (G, 0)) fl_Text_9_11 rfl ((wrG_N (by omega)).trans (ho)) (show okv g (.array .int) _ from okv_arr) d_Text_init_10 ?_
  refine ev_aload_n (k0 := 0) rfl d_Text_init_13 ?_
  refine cw_iconst 0 d_Text_init_14 rfl ?_
  refine ev_putf (M := (G, 0)) fl_Text_15_11 (wrG_S) (show okv g .int _ from okv_int) d_Text_init_15 ?_
  refine ev_return (st := []) rfl d_Text_init_18 ⟨rfl, rfl, fun i hi => ?_, fun q hq => ?_⟩
  · rcases (show i = 0 ∨ i = 1 by omega) with rfl | rfl
    · exact ⟨_, wrG_S, rfl, rfl, rfl, fun k hk => by
      replace hk : k < 2 := hk
      rcases (show k = 0 ∨ k = 1 by omega) with rfl | rfl <;> rfl⟩
    · exact ⟨_, (wrG_N (by omega)).trans ((wrG_N (by omega)).trans (wrG_S)), CE.rf⟩
  · exact (wrG_N (by omega)).trans ((wrG_N (by omega)).trans ((wrG_N (by omega)).trans (rfl)))
set_option maxRecDepth 100000 in
set_option maxHeartbeats 4000000 in
theorem M_Setup_init (d : Nat) {f : Nat → RV} (ho : G o = some (false, 7, 0, f)) : Mt g (d + 1) m_Setup_init [.inr (0, o)] (G, o + 1) 9 51 (PI G o 10 (setupC o)) := by
  refine Mt.of9 [some (.inr (0, o))] (by decide +kernel) rfl rfl rfl rfl ?_
  refine ev_aload_n (k0 := 0) rfl d_Setup_init_0 ?_
  refine ev_objInit (Nat.le_of_ble_eq_true rfl) oj_Setup_3 oi_1 oi_2 d_Setup_init_1 ?_
  refine ev_aload_n (k0 := 0) rfl d_Setup_init_4 ?_
  refine cw_iconst 0 d_Setup_init_5 rfl ?_
  refine ev_putf (M := (G, 0)) fl_Setup_9_7 (ho) (show okv g .int _ from okv_int) d_Setup_init_6 ?_
  refine ev_aload_n (k0 := 0) rfl d_Setup_init_9 ?_
  refine cw_iconst 0 d_Setup_init_10 rfl ?_
  refine ev_putf (M := (G, 0)) fl_Setup_15_7 (wrG_S) (show okv g .int _ from okv_int) d_Setup_init_11 ?_
  refine ev_aload_n (k0 := 0) rfl d_Setup_init_14 ?_
  refine cw_iconst 0 d_Setup_init_15 rfl ?_
  refine ev_putf (M := (G, 0)) fl_Setup_18_7 (wrG_S) (show okv g .int _ from okv_int) d_Setup_init_16 ?_
  refine ev_aload_n (k0 := 0) rfl d_Setup_init_19 ?_
  refine cw_iconst 0 d_Setup_init_20 rfl ?_
  refine ev_putf (M := (G, 0)) fl_Setup_21_7 (wrG_S) (show okv g .int _ from okv_int) d_Setup_init_21 ?_
  refine ev_aload_n (k0 := 0) rfl d_Setup_init_24 ?_
  refine cw_iconst 0 d_Setup_init_25 rfl ?_
  refine ev_putf (M := (G, 0)) fl_Setup_24_7 (wrG_S) (show okv g .int _ from okv_int) d_Setup_init_26 ?_
  refine ev_aload_n (k0 := 0) rfl d_Setup_init_29 ?_
  refine Ev.room (mc := 8 + 1) (ms := 49 + 2) (ev_new (M := (G, 0)) coC_3 cl_Setup_27 in_Names ii_Names d_Setup_init_30 ?_) (by omega) (by omega)
  refine ev_dup rfl d_Setup_init_33 ?_
  refine Ev.room (mc := 1 + 7) (ms := 8 + 41) (ev_invIN (d := d) (vs := []) ln_Setup_29 (M_Names_init d (o := o + 1) wrG_S) rfl (Nat.le_of_ble_eq_true rfl) d_Setup_init_34 ⟨fun v M' hP => ?_, fun E M' hP => by obtain ⟨h9, -⟩ := hP; cases h9⟩) (by omega) (by omega)
  obtain ⟨hv1, hM1, hA1, hF1⟩ := hP
  cases hv1
  obtain ⟨G1, nx1⟩ := M'
  replace hM1 : nx1 = o + 1 + 2 := hM1
  subst hM1
  refine ev_putfF (M := (G, 0)) fl_Setup_30_7 rfl ((hF1 _ (by omega)).trans ((wrG_N (by omega)).trans (wrG_S))) (show okv g (.object "ProphecyShop$Names") _ from okv_obj) d_Setup_init_37 ?_
  refine ev_aload_n (k0 := 0) rfl d_Setup_init_40 ?_
  refine Ev.room (mc := 6 + 1) (ms := 39 + 2) (ev_new (M := (G, 0)) coC_3 cl_Setup_27 in_Names ii_Names d_Setup_init_41 ?_) (by omega) (by omega)
  refine ev_dup rfl d_Setup_init_44 ?_
  refine Ev.room (mc := 1 + 5) (ms := 8 + 31) (ev_invIN (d := d) (vs := []) ln_Setup_29 (M_Names_init d (o := o + 3) wrG_S) rfl (Nat.le_of_ble_eq_true rfl) d_Setup_init_45 ⟨fun v M' hP => ?_, fun E M' hP => by obtain ⟨h9, -⟩ := hP; cases h9⟩) (by omega) (by omega)
  obtain ⟨hv2, hM2, hA2, hF2⟩ := hP
  cases hv2
  obtain ⟨G2, nx2⟩ := M'
  replace hM2 : nx2 = o + 3 + 2 := hM2
  subst hM2
  refine ev_putfF (M := (G, 0)) fl_Setup_34_7 rfl ((hF2 _ (by omega)).trans ((wrG_N (by omega)).trans (wrG_S))) (show okv g (.object "ProphecyShop$Names") _ from okv_obj) d_Setup_init_48 ?_
  refine ev_aload_n (k0 := 0) rfl d_Setup_init_51 ?_
  refine Ev.room (mc := 4 + 1) (ms := 29 + 2) (ev_new (M := (G, 0)) coC_3 cl_Setup_27 in_Names ii_Names d_Setup_init_52 ?_) (by omega) (by omega)
  refine ev_dup rfl d_Setup_init_55 ?_
  refine Ev.room (mc := 1 + 3) (ms := 8 + 21) (ev_invIN (d := d) (vs := []) ln_Setup_29 (M_Names_init d (o := o + 5) wrG_S) rfl (Nat.le_of_ble_eq_true rfl) d_Setup_init_56 ⟨fun v M' hP => ?_, fun E M' hP => by obtain ⟨h9, -⟩ := hP; cases h9⟩) (by omega) (by omega)
  obtain ⟨hv3, hM3, hA3, hF3⟩ := hP
  cases hv3
  obtain ⟨G3, nx3⟩ := M'
  replace hM3 : nx3 = o + 5 + 2 := hM3
  subst hM3
  refine ev_putfF (M := (G, 0)) fl_Setup_37_7 rfl ((hF3 _ (by omega)).trans ((wrG_N (by omega)).trans (wrG_S))) (show okv g (.object "ProphecyShop$Names") _ from okv_obj) d_Setup_init_59 ?_
  refine ev_aload_n (k0 := 0) rfl d_Setup_init_62 ?_
  refine cw_bipush 8 d_Setup_init_63 rfl ?_
  refine Ev.room (mc := 2 + 1) (ms := 13 + 8) (ev_newa (M := (G, 0)) (ei := 0) (n := 8) (at0 := .int) (ty := .int) rfl rfl (by decide) ac_int (by decide) (by decide) (by decide) d_Setup_init_65 ?_) (by omega) (by omega)
  refine ev_putfF (M := (G, 0)) fl_Setup_40_7 rfl ((wrG_N (by omega)).trans (wrG_S)) (show okv g (.array .int) _ from okv_arr) d_Setup_init_67 ?_
  refine ev_aload_n (k0 := 0) rfl d_Setup_init_70 ?_
  refine cw_bipush 8 d_Setup_init_71 rfl ?_
  refine Ev.room (mc := 1 + 1) (ms := 5 + 8) (ev_newa (M := (G, 0)) (ei := 0) (n := 8) (at0 := .int) (ty := .int) rfl rfl (by decide) ac_int (by decide) (by decide) (by decide) d_Setup_init_73 ?_) (by omega) (by omega)
  refine ev_putfF (M := (G, 0)) fl_Setup_44_7 rfl ((wrG_N (by omega)).trans (wrG_S)) (show okv g (.array .int) _ from okv_arr) d_Setup_init_75 ?_
  refine ev_aload_n (k0 := 0) rfl d_Setup_init_78 ?_
  refine cw_iconst 5 d_Setup_init_79 rfl ?_
  refine Ev.room (mc := 0 + 1) (ms := 0 + 5) (ev_newa (M := (G, 0)) (ei := 0) (n := 5) (at0 := .int) (ty := .int) rfl rfl (by decide) ac_int (by decide) (by decide) (by decide) d_Setup_init_80 ?_) (by omega) (by omega)
  refine ev_putfF (M := (G, 0)) fl_Setup_47_7 rfl ((wrG_N (by omega)).trans (wrG_S)) (show okv g (.array .int) _ from okv_arr) d_Setup_init_82 ?_
  refine ev_aload_n (k0 := 0) rfl d_Setup_init_85 ?_
  refine cw_iconst 0 d_Setup_init_86 rfl ?_
  refine ev_putf (M := (G, 0)) fl_Setup_50_7 (wrG_S) (show okv g .int _ from okv_int) d_Setup_init_87 ?_
  refine ev_return (st := []) rfl d_Setup_init_90 ⟨rfl, rfl, fun i hi => ?_, fun q hq => ?_⟩
  · rcases (show i = 0 ∨ i = 1 ∨ i = 2 ∨ i = 3 ∨ i = 4 ∨ i = 5 ∨ i = 6 ∨ i = 7 ∨ i = 8 ∨ i = 9 by omega) with rfl | rfl | rfl | rfl | rfl | rfl | rfl | rfl | rfl | rfl
    · exact ⟨_, wrG_S, rfl, rfl, rfl, fun k hk => by
      replace hk : k < 12 := hk
      rcases (show k = 0 ∨ k = 1 ∨ k = 2 ∨ k = 3 ∨ k = 4 ∨ k = 5 ∨ k = 6 ∨ k = 7 ∨ k = 8 ∨ k = 9 ∨ k = 10 ∨ k = 11 by omega) with rfl | rfl | rfl | rfl | rfl | rfl | rfl | rfl | rfl | rfl | rfl | rfl <;> rfl⟩
    · exact AT.fr (hA1 0 (by omega)) ((wrG_N (by omega)).trans ((wrG_N (by omega)).trans ((wrG_N (by omega)).trans ((wrG_N (by omega)).trans ((wrG_N (by omega)).trans ((wrG_N (by omega)).trans ((wrG_N (by omega)).trans ((wrG_N (by omega)).trans ((hF3 _ (by omega)).trans ((wrG_N (by omega)).trans ((wrG_N (by omega)).trans ((hF2 _ (by omega)).trans ((wrG_N (by omega)).trans ((wrG_N (by omega)).trans (rfl)))))))))))))))
    · exact AT.fr (hA1 1 (by omega)) ((wrG_N (by omega)).trans ((wrG_N (by omega)).trans ((wrG_N (by omega)).trans ((wrG_N (by omega)).trans ((wrG_N (by omega)).trans ((wrG_N (by omega)).trans ((wrG_N (by omega)).trans ((wrG_N (by omega)).trans ((hF3 _ (by omega)).trans ((wrG_N (by omega)).trans ((wrG_N (by omega)).trans ((hF2 _ (by omega)).trans ((wrG_N (by omega)).trans ((wrG_N (by omega)).trans (rfl)))))))))))))))
    · exact AT.fr (hA2 0 (by omega)) ((wrG_N (by omega)).trans ((wrG_N (by omega)).trans ((wrG_N (by omega)).trans ((wrG_N (by omega)).trans ((wrG_N (by omega)).trans ((wrG_N (by omega)).trans ((wrG_N (by omega)).trans ((wrG_N (by omega)).trans ((hF3 _ (by omega)).trans ((wrG_N (by omega)).trans ((wrG_N (by omega)).trans (rfl))))))))))))
    · exact AT.fr (hA2 1 (by omega)) ((wrG_N (by omega)).trans ((wrG_N (by omega)).trans ((wrG_N (by omega)).trans ((wrG_N (by omega)).trans ((wrG_N (by omega)).trans ((wrG_N (by omega)).trans ((wrG_N (by omega)).trans ((wrG_N (by omega)).trans ((hF3 _ (by omega)).trans ((wrG_N (by omega)).trans ((wrG_N (by omega)).trans (rfl))))))))))))
    · exact AT.fr (hA3 0 (by omega)) ((wrG_N (by omega)).trans ((wrG_N (by omega)).trans ((wrG_N (by omega)).trans ((wrG_N (by omega)).trans ((wrG_N (by omega)).trans ((wrG_N (by omega)).trans ((wrG_N (by omega)).trans ((wrG_N (by omega)).trans (rfl)))))))))
    · exact AT.fr (hA3 1 (by omega)) ((wrG_N (by omega)).trans ((wrG_N (by omega)).trans ((wrG_N (by omega)).trans ((wrG_N (by omega)).trans ((wrG_N (by omega)).trans ((wrG_N (by omega)).trans ((wrG_N (by omega)).trans ((wrG_N (by omega)).trans (rfl)))))))))
    · exact ⟨_, (wrG_N (by omega)).trans ((wrG_N (by omega)).trans ((wrG_N (by omega)).trans ((wrG_N (by omega)).trans ((wrG_N (by omega)).trans ((wrG_N (by omega)).trans (wrG_S)))))), CE.rf⟩
    · exact ⟨_, (wrG_N (by omega)).trans ((wrG_N (by omega)).trans ((wrG_N (by omega)).trans ((wrG_N (by omega)).trans (wrG_S)))), CE.rf⟩
    · exact ⟨_, (wrG_N (by omega)).trans ((wrG_N (by omega)).trans (wrG_S)), CE.rf⟩
  · exact (wrG_N (by omega)).trans ((wrG_N (by omega)).trans ((wrG_N (by omega)).trans ((wrG_N (by omega)).trans ((wrG_N (by omega)).trans ((wrG_N (by omega)).trans ((wrG_N (by omega)).trans ((wrG_N (by omega)).trans ((hF3 _ (by omega)).trans ((wrG_N (by omega)).trans ((wrG_N (by omega)).trans ((hF2 _ (by omega)).trans ((wrG_N (by omega)).trans ((wrG_N (by omega)).trans ((hF1 _ (by omega)).trans ((wrG_N (by omega)).trans ((wrG_N (by omega)).trans ((wrG_N (by omega)).trans ((wrG_N (by omega)).trans ((wrG_N (by omega)).trans ((wrG_N (by omega)).trans (rfl)))))))))))))))))))))
theorem M_Reader_init_6 (d : Nat) {nx : Nat} {t : Nat × Nat} {f : Nat → RV} (ho : G o = some (false, 6, 0, f)) : Mt g d m_Reader_init [.inr (0, o), .inr t] (G, nx) 0 0 (fun r M' => r = rV ∧ M'.2 = nx ∧ M'.1 o = some (false, 6, 0, updF (updF (updF (updF (updF (updF f 1 (.inl (.int 0))) 2 (.inl (.int 0))) 3 (.inl (.int 0))) 4 (.inl (.int 0))) 5 (.inl (.int (-1)))) 0 (.inr t)) ∧ ∀ q, q ≠ o → M'.1 q = G q) := by
  refine Mt.of9 [some (.inr (0, o)), some (.inr t)] (by decide +kernel) rfl rfl rfl rfl ?_
  refine ev_aload_n (k0 := 0) rfl d_Reader_init_0 ?_
  refine ev_objInit (Nat.le_of_ble_eq_true rfl) oj_Reader_3 oi_1 oi_2 d_Reader_init_1 ?_
  refine ev_aload_n (k0 := 0) rfl d_Reader_init_4 ?_
  refine cw_iconst 0 d_Reader_init_5 rfl ?_
  refine ev_putf (M := (G, 0)) fl_Reader_11_6 (ho) (show okv g .int _ from okv_int) d_Reader_init_6 ?_
  refine ev_aload_n (k0 := 0) rfl d_Reader_init_9 ?_
  refine cw_iconst 0 d_Reader_init_10 rfl ?_
  refine ev_putf (M := (G, 0)) fl_Reader_15_6 (wrG_S) (show okv g .int _ from okv_int) d_Reader_init_11 ?_
  refine ev_aload_n (k0 := 0) rfl d_Reader_init_14 ?_
  refine cw_iconst 0 d_Reader_init_15 rfl ?_
  refine ev_putf (M := (G, 0)) fl_Reader_18_6 (wrG_S) (show okv g .int _ from okv_int) d_Reader_init_16 ?_
  refine ev_aload_n (k0 := 0) rfl d_Reader_init_19 ?_
  refine cw_iconst 0 d_Reader_init_20 rfl ?_
  refine ev_putf (M := (G, 0)) fl_Reader_21_6 (wrG_S) (show okv g .int _ from okv_int) d_Reader_init_21 ?_
  refine ev_aload_n (k0 := 0) rfl d_Reader_init_24 ?_
  refine cw_iconst (-1) d_Reader_init_25 rfl ?_
  refine ev_putf (M := (G, 0)) fl_Reader_24_6 (wrG_S) (show okv g .int _ from okv_int) d_Reader_init_26 ?_
  refine ev_aload_n (k0 := 0) rfl d_Reader_init_29 ?_
  refine ev_aload_n (k0 := 1) rfl d_Reader_init_30 ?_
  refine ev_putfF (M := (G, 0)) fl_Reader_27_6 rfl (wrG_S) (show okv g (.object "ProphecyShop$Text") _ from okv_obj) d_Reader_init_31 ?_
  refine ev_return (st := []) rfl d_Reader_init_34 ⟨rfl, rfl, wrG_S, fun q hq => ?_⟩
  exact (wrG_N hq).trans ((wrG_N hq).trans ((wrG_N hq).trans ((wrG_N hq).trans ((wrG_N hq).trans ((wrG_N hq).trans (rfl))))))
theorem M_Reader_init_8 (d : Nat) {nx : Nat} {t : Nat × Nat} {f : Nat → RV} (ho : G o = some (false, 8, 0, f)) : Mt g d m_Reader_init [.inr (0, o), .inr t] (G, nx) 0 0 (fun r M' => r = rV ∧ M'.2 = nx ∧ M'.1 o = some (false, 8, 0, updF (updF (updF (updF (updF (updF f 1 (.inl (.int 0))) 2 (.inl (.int 0))) 3 (.inl (.int 0))) 4 (.inl (.int 0))) 5 (.inl (.int (-1)))) 0 (.inr t)) ∧ ∀ q, q ≠ o → M'.1 q = G q) := by
  refine Mt.of9 [some (.inr (0, o)), some (.inr t)] (by decide +kernel) rfl rfl rfl rfl ?_
  refine ev_aload_n (k0 := 0) rfl d_Reader_init_0 ?_
  refine ev_objInit (Nat.le_of_ble_eq_true rfl) oj_Reader_3 oi_1 oi_2 d_Reader_init_1 ?_
  refine ev_aload_n (k0 := 0) rfl d_Reader_init_4 ?_
  refine cw_iconst 0 d_Reader_init_5 rfl ?_
  refine ev_putf (M := (G, 0)) fl_Reader_11_8 (ho) (show okv g .int _ from okv_int) d_Reader_init_6 ?_
  refine ev_aload_n (k0 := 0) rfl d_Reader_init_9 ?_
  refine cw_iconst 0 d_Reader_init_10 rfl ?_
  refine ev_putf (M := (G, 0)) fl_Reader_15_8 (wrG_S) (show okv g .int _ from okv_int) d_Reader_init_11 ?_
  refine ev_aload_n (k0 := 0) rfl d_Reader_init_14 ?_
  refine cw_iconst 0 d_Reader_init_15 rfl ?_
  refine ev_putf (M := (G, 0)) fl_Reader_18_8 (wrG_S) (show okv g .int _ from okv_int) d_Reader_init_16 ?_
  refine ev_aload_n (k0 := 0) rfl d_Reader_init_19 ?_
  refine cw_iconst 0 d_Reader_init_20 rfl ?_
  refine ev_putf (M := (G, 0)) fl_Reader_21_8 (wrG_S) (show okv g .int _ from okv_int) d_Reader_init_21 ?_
  refine ev_aload_n (k0 := 0) rfl d_Reader_init_24 ?_
  refine cw_iconst (-1) d_Reader_init_25 rfl ?_
  refine ev_putf (M := (G, 0)) fl_Reader_24_8 (wrG_S) (show okv g .int _ from okv_int) d_Reader_init_26 ?_
  refine ev_aload_n (k0 := 0) rfl d_Reader_init_29 ?_
  refine ev_aload_n (k0 := 1) rfl d_Reader_init_30 ?_
  refine ev_putfF (M := (G, 0)) fl_Reader_27_8 rfl (wrG_S) (show okv g (.object "ProphecyShop$Text") _ from okv_obj) d_Reader_init_31 ?_
  refine ev_return (st := []) rfl d_Reader_init_34 ⟨rfl, rfl, wrG_S, fun q hq => ?_⟩
  exact (wrG_N hq).trans ((wrG_N hq).trans ((wrG_N hq).trans ((wrG_N hq).trans ((wrG_N hq).trans ((wrG_N hq).trans (rfl))))))
end Leaf
