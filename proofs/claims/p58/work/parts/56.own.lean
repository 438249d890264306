/-! Own is made. -/
def oF (b i : Nat) : Nat → RV := fun k => if k < 15 then .inl (.int 0) else if k < 15 + i then .inr (0, b + (k - 14)) else .inl .null
def oG (G : RG) (b i : Nat) : RG := fun q => if q = b then some (false, 13, 0, oF b i) else if b < q ∧ q ≤ b + i then some (true, ixK (60 + (q - b)), lenK (60 + (q - b)), fun _ => .inl (.int 0)) else G q
theorem oG_b {G : RG} {b i : Nat} : oG G b i b = some (false, 13, 0, oF b i) := if_pos rfl
theorem own_step {g : GL} {d : Nat} {mi : MI} {pc : Nat} {ls : List (Option RV)} {mc ms : Nat} {Post : RO → RM → Prop} {G : RG} {b i n idx : Nat} {x : Int32} {at0 : ArrayType} {ty : FieldType} (hi : i < 20) (hty : newarray.typeOf at0 = ty) (he : rTy[ixK (61 + i)]? = some ty) (h4 : ixK (61 + i) < 4) (hat : Cond.arrayClass ty ∈ lw_good) (hx : ¬ x < 0) (hn : x.toNatClampNeg = n) (hn2 : lenK (61 + i) = n) (hby : n * componentBytes ty ≤ 536870912) (hdv : defaultValue ty = .int 0) (hini : mi.1.name = "<init>") (fl : FL mi.1.cls idx 13 (15 + i) true (.array ty)) (hd1 : decode mi.2.1 pc = .ok (.newarray at0, 2)) (hd2 : decode mi.2.1 (pc + 2) = .ok (.putfield idx, 3)) (k : Ev g d mi (pc + 2 + 3) ls [] (oG G b (i + 1), b + 1 + (i + 1)) mc ms Post) : Ev g d mi pc ls [.inl (.int x), .inr (0, b)] (oG G b i, b + 1 + i) (mc + 1) (ms + n) Post := by
  refine ev_newa (M := (G, 0)) (ei := ixK (61 + i)) hty he h4 hat hx hn hby hd1 ?_
  refine ev_putfF (M := (G, 0)) fl hini ((wrG_N (by omega)).trans oG_b) (show okv g (.array ty) _ from okv_arr) hd2 ?_
  refine Ev.norm k (fun o c' h => ?_)
  unfold oG at h
  by_cases e : o = b
  · subst e
    rw [if_pos rfl] at h
    cases h
    refine ⟨_, wrG_S, rfl, rfl, rfl, fun k hk => ?_⟩
    show updF (oF o i) (15 + i) (.inr (0, o + 1 + i)) k = oF o (i + 1) k
    unfold updF oF
    by_cases e2 : k = 15 + i
    · rw [if_pos e2, if_neg (by omega), if_pos (by omega), show o + (k - 14) = o + 1 + i by omega]
    · rw [if_neg e2]
      by_cases e3 : k < 15
      · rw [if_pos e3, if_pos e3]
      · rw [if_neg e3, if_neg e3]
        by_cases e4 : k < 15 + i
        · rw [if_pos e4, if_pos (by omega)]
        · rw [if_neg e4, if_neg (by omega)]
  · rw [if_neg e] at h
    by_cases e2 : o = b + 1 + i
    · rw [if_pos (by omega)] at h
      cases h
      refine ⟨(true, ixK (61 + i), n, fun _ => .inl (defaultValue ty)), (wrG_N e).trans (by rw [e2]; exact wrG_S), rfl, ?_, ?_, fun k hk => ?_⟩
      · show ixK (61 + i) = ixK (60 + (o - b))
        rw [show 60 + (o - b) = 61 + i by omega]
      · show n = lenK (60 + (o - b))
        rw [show 60 + (o - b) = 61 + i by omega, hn2]
      · show Sum.inl (defaultValue ty) = _
        rw [hdv]
    · refine ⟨c', (wrG_N e).trans ((wrG_N (by omega)).trans ?_), CE.rf⟩
      unfold oG
      rw [if_neg e]
      by_cases e3 : b < o ∧ o ≤ b + (i + 1)
      · rw [if_pos e3] at h
        rw [if_pos (by omega)]
        exact h
      · rw [if_neg e3] at h
        rw [if_neg (by omega)]
        exact h
def z0M : Mem := fun _ _ _ => 0
/-- where Own lies when it is made -/
def zG (G : RG) (b : Nat) : RG := fun q => if b ≤ q ∧ q < b + 21 then some (cel z0M (60 + (q - b)) b) else G q
theorem off_b {b K : Nat} (h1 : 60 ≤ K) (h2 : K ≤ 80) : off K b = b + (K - 60) := by
  rcases (show K = 60 ∨ K = 61 ∨ K = 62 ∨ K = 63 ∨ K = 64 ∨ K = 65 ∨ K = 66 ∨ K = 67 ∨ K = 68 ∨ K = 69 ∨ K = 70 ∨ K = 71 ∨ K = 72 ∨ K = 73 ∨ K = 74 ∨ K = 75 ∨ K = 76 ∨ K = 77 ∨ K = 78 ∨ K = 79 ∨ K = 80 by omega) with rfl | rfl | rfl | rfl | rfl | rfl | rfl | rfl | rfl | rfl | rfl | rfl | rfl | rfl | rfl | rfl | rfl | rfl | rfl | rfl | rfl <;> rfl
theorem zG_lm {G : RG} {b : Nat} : LM (vo b) b (b + 21) z0M G (zG G b) := by
  refine ⟨fun K j hv => ?_, fun o ho => ?_⟩
  · obtain ⟨h1, h2, rfl⟩ := hv
    rw [off_b h1 h2]
    unfold zG
    rw [if_pos (by omega), show 60 + (j + (K - 60) - j) = K by omega]
  · unfold zG
    rw [if_neg (by omega)]
theorem zG_ce {G : RG} {b : Nat} : ∀ o c', zG G b o = some c' → ∃ c, oG G b 20 o = some c ∧ CE c c' := by
  intro o c' h
  unfold zG at h
  by_cases e : b ≤ o ∧ o < b + 21
  · rw [if_pos e] at h
    cases h
    obtain ⟨i, hi, rfl⟩ : ∃ i, i < 21 ∧ o = b + i := ⟨o - b, by omega, by omega⟩
    rw [show b + i - b = i by omega]
    by_cases e0 : i = 0
    · subst e0
      refine ⟨_, oG_b, rfl, rfl, rfl, fun k hk => ?_⟩
      replace hk : k < 35 := hk
      rcases (show k = 0 ∨ k = 1 ∨ k = 2 ∨ k = 3 ∨ k = 4 ∨ k = 5 ∨ k = 6 ∨ k = 7 ∨ k = 8 ∨ k = 9 ∨ k = 10 ∨ k = 11 ∨ k = 12 ∨ k = 13 ∨ k = 14 ∨ k = 15 ∨ k = 16 ∨ k = 17 ∨ k = 18 ∨ k = 19 ∨ k = 20 ∨ k = 21 ∨ k = 22 ∨ k = 23 ∨ k = 24 ∨ k = 25 ∨ k = 26 ∨ k = 27 ∨ k = 28 ∨ k = 29 ∨ k = 30 ∨ k = 31 ∨ k = 32 ∨ k = 33 ∨ k = 34 by omega) with rfl | rfl | rfl | rfl | rfl | rfl | rfl | rfl | rfl | rfl | rfl | rfl | rfl | rfl | rfl | rfl | rfl | rfl | rfl | rfl | rfl | rfl | rfl | rfl | rfl | rfl | rfl | rfl | rfl | rfl | rfl | rfl | rfl | rfl | rfl <;> rfl
    · refine ⟨(true, ixK (60 + i), lenK (60 + i), fun _ => .inl (.int 0)), ?_, ?_⟩
      · unfold oG
        rw [if_neg (by omega), if_pos (by omega), show b + i - b = i by omega]
      · rcases (show i = 1 ∨ i = 2 ∨ i = 3 ∨ i = 4 ∨ i = 5 ∨ i = 6 ∨ i = 7 ∨ i = 8 ∨ i = 9 ∨ i = 10 ∨ i = 11 ∨ i = 12 ∨ i = 13 ∨ i = 14 ∨ i = 15 ∨ i = 16 ∨ i = 17 ∨ i = 18 ∨ i = 19 ∨ i = 20 by omega) with rfl | rfl | rfl | rfl | rfl | rfl | rfl | rfl | rfl | rfl | rfl | rfl | rfl | rfl | rfl | rfl | rfl | rfl | rfl | rfl <;> exact ⟨rfl, rfl, rfl, fun _ _ => rfl⟩
  · rw [if_neg e] at h
    refine ⟨c', ?_, CE.rf⟩
    unfold oG
    rw [if_neg (by omega), if_neg (by omega)]
    exact h
theorem oG_0 {G : RG} {b : Nat} (h : G b = some (false, 13, 0, dflt tyX12)) : ∀ o c', oG G b 0 o = some c' → ∃ c, G o = some c ∧ CE c c' := by
  intro o c' h2
  unfold oG at h2
  by_cases e : o = b
  · subst e
    rw [if_pos rfl] at h2
    cases h2
    refine ⟨_, h, rfl, rfl, rfl, fun k hk => ?_⟩
    replace hk : k < 35 := hk
    rcases (show k = 0 ∨ k = 1 ∨ k = 2 ∨ k = 3 ∨ k = 4 ∨ k = 5 ∨ k = 6 ∨ k = 7 ∨ k = 8 ∨ k = 9 ∨ k = 10 ∨ k = 11 ∨ k = 12 ∨ k = 13 ∨ k = 14 ∨ k = 15 ∨ k = 16 ∨ k = 17 ∨ k = 18 ∨ k = 19 ∨ k = 20 ∨ k = 21 ∨ k = 22 ∨ k = 23 ∨ k = 24 ∨ k = 25 ∨ k = 26 ∨ k = 27 ∨ k = 28 ∨ k = 29 ∨ k = 30 ∨ k = 31 ∨ k = 32 ∨ k = 33 ∨ k = 34 by omega) with rfl | rfl | rfl | rfl | rfl | rfl | rfl | rfl | rfl | rfl | rfl | rfl | rfl | rfl | rfl | rfl | rfl | rfl | rfl | rfl | rfl | rfl | rfl | rfl | rfl | rfl | rfl | rfl | rfl | rfl | rfl | rfl | rfl | rfl | rfl <;> rfl
  · rw [if_neg e, if_neg (by omega)] at h2
    exact ⟨c', h2, CE.rf⟩
set_option maxRecDepth 100000 in
theorem M_Own_init (d : Nat) {g : GL} {G : RG} {b : Nat} (h : G b = some (false, 13, 0, dflt tyX12)) : Mt g d m_Own_init [.inr (0, b)] (G, b + 1) 20 425 (fun r M' => r = rV ∧ M'.2 = b + 21 ∧ LM (vo b) b (b + 21) z0M G M'.1) := by
  refine Mt.of9 [some (.inr (0, b))] (by decide +kernel) rfl rfl rfl rfl ?_
  refine ev_aload_n (k0 := 0) rfl d_Own_init_0 ?_
  refine ev_objInit (Nat.le_of_ble_eq_true rfl) oj_Own_1 oi_1 oi_2 d_Own_init_1 ?_
  refine Ev.norm ?_ (oG_0 h)
  refine ev_aload_n (k0 := 0) rfl d_Own_init_4 ?_
  refine cw_bipush 8 d_Own_init_5 rfl ?_
  refine own_step (i := 0) (n := 8) (mc := 19) (ms := 417) (ty := .int) (by decide) rfl rfl (by decide) ac_int (by decide) (by decide) rfl (by decide) rfl rfl fl_Own_7_60 d_Own_init_7 d_Own_init_9 ?_
  refine ev_aload_n (k0 := 0) rfl d_Own_init_12 ?_
  refine cw_bipush 8 d_Own_init_13 rfl ?_
  refine own_step (i := 1) (n := 8) (mc := 18) (ms := 409) (ty := .int) (by decide) rfl rfl (by decide) ac_int (by decide) (by decide) rfl (by decide) rfl rfl fl_Own_13_60 d_Own_init_15 d_Own_init_17 ?_
  refine ev_aload_n (k0 := 0) rfl d_Own_init_20 ?_
  refine cw_iconst 5 d_Own_init_21 rfl ?_
  refine own_step (i := 2) (n := 5) (mc := 17) (ms := 404) (ty := .int) (by decide) rfl rfl (by decide) ac_int (by decide) (by decide) rfl (by decide) rfl rfl fl_Own_16_60 d_Own_init_22 d_Own_init_24 ?_
  refine ev_aload_n (k0 := 0) rfl d_Own_init_27 ?_
  refine cw_iconst 5 d_Own_init_28 rfl ?_
  refine own_step (i := 3) (n := 5) (mc := 16) (ms := 399) (ty := .int) (by decide) rfl rfl (by decide) ac_int (by decide) (by decide) rfl (by decide) rfl rfl fl_Own_19_60 d_Own_init_29 d_Own_init_31 ?_
  refine ev_aload_n (k0 := 0) rfl d_Own_init_34 ?_
  refine cw_iconst 5 d_Own_init_35 rfl ?_
  refine own_step (i := 4) (n := 5) (mc := 15) (ms := 394) (ty := .int) (by decide) rfl rfl (by decide) ac_int (by decide) (by decide) rfl (by decide) rfl rfl fl_Own_22_60 d_Own_init_36 d_Own_init_38 ?_
  refine ev_aload_n (k0 := 0) rfl d_Own_init_41 ?_
  refine cw_iconst 5 d_Own_init_42 rfl ?_
  refine own_step (i := 5) (n := 5) (mc := 14) (ms := 389) (ty := .int) (by decide) rfl rfl (by decide) ac_int (by decide) (by decide) rfl (by decide) rfl rfl fl_Own_25_60 d_Own_init_43 d_Own_init_45 ?_
  refine ev_aload_n (k0 := 0) rfl d_Own_init_48 ?_
  refine cw_iconst 5 d_Own_init_49 rfl ?_
  refine own_step (i := 6) (n := 5) (mc := 13) (ms := 384) (ty := .int) (by decide) rfl rfl (by decide) ac_int (by decide) (by decide) rfl (by decide) rfl rfl fl_Own_28_60 d_Own_init_50 d_Own_init_52 ?_
  refine ev_aload_n (k0 := 0) rfl d_Own_init_55 ?_
  refine cw_bipush 24 d_Own_init_56 rfl ?_
  refine own_step (i := 7) (n := 24) (mc := 12) (ms := 360) (ty := .int) (by decide) rfl rfl (by decide) ac_int (by decide) (by decide) rfl (by decide) rfl rfl fl_Own_31_60 d_Own_init_58 d_Own_init_60 ?_
  refine ev_aload_n (k0 := 0) rfl d_Own_init_63 ?_
  refine cw_bipush 24 d_Own_init_64 rfl ?_
  refine own_step (i := 8) (n := 24) (mc := 11) (ms := 336) (ty := .int) (by decide) rfl rfl (by decide) ac_int (by decide) (by decide) rfl (by decide) rfl rfl fl_Own_34_60 d_Own_init_66 d_Own_init_68 ?_
  refine ev_aload_n (k0 := 0) rfl d_Own_init_71 ?_
  refine cw_bipush 24 d_Own_init_72 rfl ?_
  refine own_step (i := 9) (n := 24) (mc := 10) (ms := 312) (ty := .int) (by decide) rfl rfl (by decide) ac_int (by decide) (by decide) rfl (by decide) rfl rfl fl_Own_37_60 d_Own_init_74 d_Own_init_76 ?_
  refine ev_aload_n (k0 := 0) rfl d_Own_init_79 ?_
  refine cw_bipush 24 d_Own_init_80 rfl ?_
  refine own_step (i := 10) (n := 24) (mc := 9) (ms := 288) (ty := .int) (by decide) rfl rfl (by decide) ac_int (by decide) (by decide) rfl (by decide) rfl rfl fl_Own_40_60 d_Own_init_82 d_Own_init_84 ?_
  refine ev_aload_n (k0 := 0) rfl d_Own_init_87 ?_
  refine cw_bipush 24 d_Own_init_88 rfl ?_
  refine own_step (i := 11) (n := 24) (mc := 8) (ms := 264) (ty := .int) (by decide) rfl rfl (by decide) ac_int (by decide) (by decide) rfl (by decide) rfl rfl fl_Own_43_60 d_Own_init_90 d_Own_init_92 ?_
  refine ev_aload_n (k0 := 0) rfl d_Own_init_95 ?_
  refine cw_bipush 24 d_Own_init_96 rfl ?_
  refine own_step (i := 12) (n := 24) (mc := 7) (ms := 240) (ty := .int) (by decide) rfl rfl (by decide) ac_int (by decide) (by decide) rfl (by decide) rfl rfl fl_Own_46_60 d_Own_init_98 d_Own_init_100 ?_
  refine ev_aload_n (k0 := 0) rfl d_Own_init_103 ?_
  refine cw_bipush 24 d_Own_init_104 rfl ?_
  refine own_step (i := 13) (n := 24) (mc := 6) (ms := 216) (ty := .int) (by decide) rfl rfl (by decide) ac_int (by decide) (by decide) rfl (by decide) rfl rfl fl_Own_49_60 d_Own_init_106 d_Own_init_108 ?_
  refine ev_aload_n (k0 := 0) rfl d_Own_init_111 ?_
  refine cw_bipush 24 d_Own_init_112 rfl ?_
  refine own_step (i := 14) (n := 24) (mc := 5) (ms := 192) (ty := .int) (by decide) rfl rfl (by decide) ac_int (by decide) (by decide) rfl (by decide) rfl rfl fl_Own_52_60 d_Own_init_114 d_Own_init_116 ?_
  refine ev_aload_n (k0 := 0) rfl d_Own_init_119 ?_
  refine cw_bipush 24 d_Own_init_120 rfl ?_
  refine own_step (i := 15) (n := 24) (mc := 4) (ms := 168) (ty := .int) (by decide) rfl rfl (by decide) ac_int (by decide) (by decide) rfl (by decide) rfl rfl fl_Own_55_60 d_Own_init_122 d_Own_init_124 ?_
  refine ev_aload_n (k0 := 0) rfl d_Own_init_127 ?_
  refine cw_bipush 24 d_Own_init_128 rfl ?_
  refine own_step (i := 16) (n := 24) (mc := 3) (ms := 144) (ty := .int) (by decide) rfl rfl (by decide) ac_int (by decide) (by decide) rfl (by decide) rfl rfl fl_Own_58_60 d_Own_init_130 d_Own_init_132 ?_
  refine ev_aload_n (k0 := 0) rfl d_Own_init_135 ?_
  refine cw_bipush 24 d_Own_init_136 rfl ?_
  refine own_step (i := 17) (n := 24) (mc := 2) (ms := 120) (ty := .boolean) (by decide) rfl rfl (by decide) ac_boolean (by decide) (by decide) rfl (by decide) rfl rfl fl_Own_61_60 d_Own_init_138 d_Own_init_140 ?_
  refine ev_aload_n (k0 := 0) rfl d_Own_init_143 ?_
  refine cw_bipush 60 d_Own_init_144 rfl ?_
  refine own_step (i := 18) (n := 60) (mc := 1) (ms := 60) (ty := .int) (by decide) rfl rfl (by decide) ac_int (by decide) (by decide) rfl (by decide) rfl rfl fl_Own_65_60 d_Own_init_146 d_Own_init_148 ?_
  refine ev_aload_n (k0 := 0) rfl d_Own_init_151 ?_
  refine cw_bipush 60 d_Own_init_152 rfl ?_
  refine own_step (i := 19) (n := 60) (mc := 0) (ms := 0) (ty := .int) (by decide) rfl rfl (by decide) ac_int (by decide) (by decide) rfl (by decide) rfl rfl fl_Own_68_60 d_Own_init_154 d_Own_init_156 ?_
  refine Ev.norm ?_ zG_ce
  exact ev_return (st := []) rfl d_Own_init_159 ⟨rfl, rfl, zG_lm⟩
