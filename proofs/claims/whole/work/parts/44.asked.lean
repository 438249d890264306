/-! What only looks: prophecies, the queue, owls. -/
section Asked
variable {μ ν : Mem} {s E P C O n w t dd h L : Nat} {π : Nat → Nat}
theorem C_pw0 {x : Int32} (h5 : μ 9 0 5 = nI n) (hn : n ≤ 24) (e0 : ixB x n = 0) : f_P_prophecyWith x μ = some (.inl xIOB) := by
  unfold f_P_prophecyWith
  rw [C_hasSold h5 hn, bind_s, e0]; rfl
theorem C_pw1 {p : Nat} (h5 : μ 9 0 5 = nI n) (hn : n ≤ 24) (hp : p < n) : f_P_prophecyWith (nI p) μ = some (.inr (24 * 0 + p)) := by
  unfold f_P_prophecyWith
  rw [C_hasSold h5 hn, bind_s, ixB_in (by omega) hp]
  show (f_Shop_prophecyWith 0 (nI p) μ).bind _ = _
  rw [C_prophecyWith h5 hn hp, bind_s, chk_of (decide_eq_true (by omega))]
theorem R_asked0 {x y : Int32} (h10 : ν 40 0 10 = nI n) (hn : n ≤ 24) (e0 : ixB x n = 0) : f_R_asked x y ν = some (0, st3 ν 13 0 7 1) := by
  unfold f_R_asked
  rw [nm_9, R_isProphecy (n := n) (by rw [st3_K (by omega)]; exact h10) (by omega), bind_s, e0, right_0 th0 (by decide), bind_s, if_pos rfl, snd_, th_th]
theorem R_asked1 {p f : Nat} (h10 : ν 40 0 10 = nI n) (hn : n ≤ 24) (hp : p < n) (hf : f < 10) : f_R_asked (nI p) (nI f) ν = some (ν 40 0 (80 + 10 * p + f), st3 ν 13 0 7 0) := by
  unfold f_R_asked
  rw [nm_9, R_isProphecy (n := n) (by rw [st3_K (by omega)]; exact h10) (by omega), bind_s, ixB_in (by omega) hp, right_1 th0, bind_s, if_neg n1_, snd_, R_of (by omega), bind_s, st3_K (by omega)]
theorem T_customerOf (hG : GR μ ν) (x : Int32) : RdOK μ ν [(xIOB, 1)] (f_P_customerOf x μ) (f_R_customerOf x ν) := by
  have hG0 := hG
  obtain ⟨s, E, P, C, O, n, w, t, dd, h, π, L, H⟩ := hG
  obtain ⟨hn, -, -, -, -, -, -, s5, a10, -⟩ := H.2.2.2.1.1
  rcases ixB_c x (n := n) (by omega) with ⟨e0, -⟩ | ⟨ei, p, hp, rfl⟩
  · refine rd_no hG0 (e := xIOB) (k := 1) ?_ ?_ (List.mem_singleton.mpr rfl)
    · unfold f_P_customerOf
      rw [C_pw0 s5 hn e0]; rfl
    · unfold f_R_customerOf
      rw [R_asked0 a10 hn e0]; rfl
  · have hr := H.2.2.2.1.2.1 p hp
    refine rd_ok hG0 (r := ν 40 0 (80 + 10 * p + 0)) ?_ ?_
    · have key : μ 5 (24 * 0 + p) 0 = ν 40 0 (80 + 10 * p + 0) := by
        obtain ⟨⟨c, -, q, a⟩, -⟩ := hr; exact q.trans a.symm
      unfold f_P_customerOf
      rw [C_pw1 s5 hn hp, bind_s]
      show chk _ _ = _
      rw [chk_of (decide_eq_true (by omega)), key]
    · unfold f_R_customerOf
      rw [show (0 : Int32) = nI 0 from rfl, R_asked1 a10 hn hp (by omega)]; rfl
theorem T_eventOf (hG : GR μ ν) (x : Int32) : RdOK μ ν [(xIOB, 1)] (f_P_eventOf x μ) (f_R_eventOf x ν) := by
  have hG0 := hG
  obtain ⟨s, E, P, C, O, n, w, t, dd, h, π, L, H⟩ := hG
  obtain ⟨hn, -, -, -, -, -, -, s5, a10, -⟩ := H.2.2.2.1.1
  rcases ixB_c x (n := n) (by omega) with ⟨e0, -⟩ | ⟨ei, p, hp, rfl⟩
  · refine rd_no hG0 (e := xIOB) (k := 1) ?_ ?_ (List.mem_singleton.mpr rfl)
    · unfold f_P_eventOf
      rw [C_pw0 s5 hn e0]; rfl
    · unfold f_R_eventOf
      rw [R_asked0 a10 hn e0]; rfl
  · have hr := H.2.2.2.1.2.1 p hp
    refine rd_ok hG0 (r := ν 40 0 (80 + 10 * p + 1)) ?_ ?_
    · have key : μ 5 (24 * 0 + p) 2 = ν 40 0 (80 + 10 * p + 1) := by
        obtain ⟨-, ⟨c, -, q, a⟩, -⟩ := hr; exact q.trans a.symm
      unfold f_P_eventOf
      rw [C_pw1 s5 hn hp, bind_s]
      show chk _ _ = _
      rw [chk_of (decide_eq_true (by omega)), key]
    · unfold f_R_eventOf
      rw [show (1 : Int32) = nI 1 from rfl, R_asked1 a10 hn hp (by omega)]; rfl
theorem T_placeOf (hG : GR μ ν) (x : Int32) : RdOK μ ν [(xIOB, 1)] (f_P_placeOf x μ) (f_R_placeOf x ν) := by
  have hG0 := hG
  obtain ⟨s, E, P, C, O, n, w, t, dd, h, π, L, H⟩ := hG
  obtain ⟨hn, -, -, -, -, -, -, s5, a10, -⟩ := H.2.2.2.1.1
  rcases ixB_c x (n := n) (by omega) with ⟨e0, -⟩ | ⟨ei, p, hp, rfl⟩
  · refine rd_no hG0 (e := xIOB) (k := 1) ?_ ?_ (List.mem_singleton.mpr rfl)
    · unfold f_P_placeOf
      rw [C_pw0 s5 hn e0]; rfl
    · unfold f_R_placeOf
      rw [R_asked0 a10 hn e0]; rfl
  · have hr := H.2.2.2.1.2.1 p hp
    refine rd_ok hG0 (r := ν 40 0 (80 + 10 * p + 2)) ?_ ?_
    · have key : μ 5 (24 * 0 + p) 3 = ν 40 0 (80 + 10 * p + 2) := by
        obtain ⟨-, -, hk, -⟩ := hr
        rcases hk with ⟨-, q, a, -⟩ | ⟨-, ⟨l, -, q, a⟩, -⟩ | ⟨-, ⟨l, -, q, a⟩, -⟩
        · exact q.trans a.symm
        · exact q.trans a.symm
        · exact q.trans a.symm
      unfold f_P_placeOf
      rw [C_pw1 s5 hn hp, bind_s]
      show chk _ _ = _
      rw [chk_of (decide_eq_true (by omega)), key]
    · unfold f_R_placeOf
      rw [show (2 : Int32) = nI 2 from rfl, R_asked1 a10 hn hp (by omega)]; rfl
theorem T_firstDay (hG : GR μ ν) (x : Int32) : RdOK μ ν [(xIOB, 1)] (f_P_firstDay x μ) (f_R_firstDay x ν) := by
  have hG0 := hG
  obtain ⟨s, E, P, C, O, n, w, t, dd, h, π, L, H⟩ := hG
  obtain ⟨hn, -, -, -, -, -, -, s5, a10, -⟩ := H.2.2.2.1.1
  rcases ixB_c x (n := n) (by omega) with ⟨e0, -⟩ | ⟨ei, p, hp, rfl⟩
  · refine rd_no hG0 (e := xIOB) (k := 1) ?_ ?_ (List.mem_singleton.mpr rfl)
    · unfold f_P_firstDay
      rw [C_pw0 s5 hn e0]; rfl
    · unfold f_R_firstDay
      rw [R_asked0 a10 hn e0]; rfl
  · have hr := H.2.2.2.1.2.1 p hp
    refine rd_ok hG0 (r := ν 40 0 (80 + 10 * p + 4)) ?_ ?_
    · have key : μ 5 (24 * 0 + p) 4 = ν 40 0 (80 + 10 * p + 4) := by
        obtain ⟨-, -, -, ⟨d, -, q, a⟩, -⟩ := hr; exact q.trans a.symm
      unfold f_P_firstDay
      rw [C_pw1 s5 hn hp, bind_s]
      show chk _ _ = _
      rw [chk_of (decide_eq_true (by omega)), key]
    · unfold f_R_firstDay
      rw [show (4 : Int32) = nI 4 from rfl, R_asked1 a10 hn hp (by omega)]; rfl
theorem T_lastDay (hG : GR μ ν) (x : Int32) : RdOK μ ν [(xIOB, 1)] (f_P_lastDay x μ) (f_R_lastDay x ν) := by
  have hG0 := hG
  obtain ⟨s, E, P, C, O, n, w, t, dd, h, π, L, H⟩ := hG
  obtain ⟨hn, -, -, -, -, -, -, s5, a10, -⟩ := H.2.2.2.1.1
  rcases ixB_c x (n := n) (by omega) with ⟨e0, -⟩ | ⟨ei, p, hp, rfl⟩
  · refine rd_no hG0 (e := xIOB) (k := 1) ?_ ?_ (List.mem_singleton.mpr rfl)
    · unfold f_P_lastDay
      rw [C_pw0 s5 hn e0]; rfl
    · unfold f_R_lastDay
      rw [R_asked0 a10 hn e0]; rfl
  · have hr := H.2.2.2.1.2.1 p hp
    refine rd_ok hG0 (r := ν 40 0 (80 + 10 * p + 5)) ?_ ?_
    · have key : μ 5 (24 * 0 + p) 5 = ν 40 0 (80 + 10 * p + 5) := by
        obtain ⟨-, -, -, -, ⟨d, -, q, a⟩, -⟩ := hr; exact q.trans a.symm
      unfold f_P_lastDay
      rw [C_pw1 s5 hn hp, bind_s]
      show chk _ _ = _
      rw [chk_of (decide_eq_true (by omega)), key]
    · unfold f_R_lastDay
      rw [show (5 : Int32) = nI 5 from rfl, R_asked1 a10 hn hp (by omega)]; rfl
theorem T_stateOf (hG : GR μ ν) (x : Int32) : RdOK μ ν [(xIOB, 1)] (f_P_stateOf x μ) (f_R_stateOf x ν) := by
  have hG0 := hG
  obtain ⟨s, E, P, C, O, n, w, t, dd, h, π, L, H⟩ := hG
  obtain ⟨hn, -, -, -, -, -, -, s5, a10, -⟩ := H.2.2.2.1.1
  rcases ixB_c x (n := n) (by omega) with ⟨e0, -⟩ | ⟨ei, p, hp, rfl⟩
  · refine rd_no hG0 (e := xIOB) (k := 1) ?_ ?_ (List.mem_singleton.mpr rfl)
    · unfold f_P_stateOf
      rw [C_pw0 s5 hn e0]; rfl
    · unfold f_R_stateOf
      rw [R_asked0 a10 hn e0]; rfl
  · have hr := H.2.2.2.1.2.1 p hp
    refine rd_ok hG0 (r := ν 40 0 (80 + 10 * p + 7)) ?_ ?_
    · have key : μ 5 (24 * 0 + p) 7 = ν 40 0 (80 + 10 * p + 7) := by
        exact hr.2.2.2.2.2.2.1
      unfold f_P_stateOf
      rw [C_pw1 s5 hn hp, bind_s]
      show chk _ _ = _
      rw [chk_of (decide_eq_true (by omega)), key]
    · unfold f_R_stateOf
      rw [show (7 : Int32) = nI 7 from rfl, R_asked1 a10 hn hp (by omega)]; rfl
theorem T_answerFor (hG : GR μ ν) (x : Int32) : RdOK μ ν [(xIOB, 1)] (f_P_answerFor x μ) (f_R_answerFor x ν) := by
  have hG0 := hG
  obtain ⟨s, E, P, C, O, n, w, t, dd, h, π, L, H⟩ := hG
  obtain ⟨hn, -, -, -, -, -, -, s5, a10, -⟩ := H.2.2.2.1.1
  rcases ixB_c x (n := n) (by omega) with ⟨e0, -⟩ | ⟨ei, p, hp, rfl⟩
  · refine rd_no hG0 (e := xIOB) (k := 1) ?_ ?_ (List.mem_singleton.mpr rfl)
    · unfold f_P_answerFor
      rw [C_pw0 s5 hn e0]; rfl
    · unfold f_R_answerFor
      rw [R_asked0 a10 hn e0]; rfl
  · have hr := H.2.2.2.1.2.1 p hp
    refine rd_ok hG0 (r := ν 40 0 (80 + 10 * p + 9)) ?_ ?_
    · have key : μ 5 (24 * 0 + p) 9 = ν 40 0 (80 + 10 * p + 9) := by
        exact hr.2.2.2.2.2.2.2.2.2
      unfold f_P_answerFor
      rw [C_pw1 s5 hn hp, bind_s]
      show chk _ _ = _
      rw [chk_of (decide_eq_true (by omega)), key]
    · unfold f_R_answerFor
      rw [show (9 : Int32) = nI 9 from rfl, R_asked1 a10 hn hp (by omega)]; rfl
theorem T_isDenial (hG : GR μ ν) (x : Int32) : RdOK μ ν [(xIOB, 1)] (f_P_isDenial x μ) (f_R_isDenial x ν) := by
  have hG0 := hG
  obtain ⟨s, E, P, C, O, n, w, t, dd, h, π, L, H⟩ := hG
  obtain ⟨hn, -, -, -, -, -, -, s5, a10, -⟩ := H.2.2.2.1.1
  rcases ixB_c x (n := n) (by omega) with ⟨e0, -⟩ | ⟨ei, p, hp, rfl⟩
  · refine rd_no hG0 (e := xIOB) (k := 1) ?_ ?_ (List.mem_singleton.mpr rfl)
    · unfold f_P_isDenial
      rw [C_pw0 s5 hn e0]; rfl
    · unfold f_R_isDenial
      rw [R_asked0 a10 hn e0, bind_s, if_neg (by show ¬ (0 : Int32) = 1; decide)]
  · have hk := (H.2.2.2.1.2.1 p hp).2.2.1
    refine rd_ok hG0 (r := if ν 40 0 (80 + 10 * p + 3) = 1 then 1 else 0) ?_ ?_
    · unfold f_P_isDenial
      rw [C_pw1 s5 hn hp, bind_s]
      show chk _ _ = _
      rw [chk_of (decide_eq_true (by omega))]
      rcases hk with ⟨q, -, -, a⟩ | ⟨q, -, a⟩ | ⟨q, -, a⟩
      · rw [show μ 5 (24 * 0 + p) 1 = 1 from q, a]; rfl
      · rw [show μ 5 (24 * 0 + p) 1 = 0 from q, a]; rfl
      · rw [show μ 5 (24 * 0 + p) 1 = 2 from q, a]; rfl
    · unfold f_R_isDenial
      rw [show (3 : Int32) = nI 3 from rfl, R_asked1 a10 hn hp (by omega), bind_s]
      show (if ν 40 0 (80 + 10 * p + 3) = 1 then _ else _) = _
      split <;> rfl
theorem T_decidedOn (hG : GR μ ν) (x : Int32) : RdOK μ ν [(xIOB, 1), (xNSE, 2)] (f_P_decidedOn x μ) (f_R_decidedOn x ν) := by
  have hG0 := hG
  obtain ⟨s, E, P, C, O, n, w, t, dd, h, π, L, H⟩ := hG
  obtain ⟨hn, -, -, -, -, -, -, s5, a10, -⟩ := H.2.2.2.1.1
  rcases ixB_c x (n := n) (by omega) with ⟨e0, -⟩ | ⟨ei, p, hp, rfl⟩
  · refine rd_no hG0 (e := xIOB) (k := 1) ?_ ?_ (by decide)
    · unfold f_P_decidedOn
      rw [C_pw0 s5 hn e0]; rfl
    · unfold f_R_decidedOn
      rw [R_asked0 a10 hn e0, bind_s, if_pos rfl, bind_s]
      have : f_R_right 0 2 (st3 ν 13 0 7 1) = some (0, st3 ν 13 0 7 1) := by
        unfold f_R_right
        rw [th0, if_neg (by decide), bind_s, th0, if_neg (by decide)]
      rw [this, bind_s, if_pos rfl]
  · obtain ⟨-, -, -, -, -, -, q7, -, q8, -⟩ := H.2.2.2.1.2.1 p hp
    replace q7 : μ 5 (24 * 0 + p) 7 = ν 40 0 (80 + 10 * p + 7) := q7
    by_cases c0 : ν 40 0 (80 + 10 * p + 7) = 0
    · refine rd_no hG0 (e := xNSE) (k := 2) ?_ ?_ (by decide)
      · unfold f_P_decidedOn
        rw [C_pw1 s5 hn hp, bind_s]
        show chk _ _ = _
        rw [chk_of (decide_eq_true (by omega)), q7, if_pos c0]
      · unfold f_R_decidedOn
        rw [show (7 : Int32) = nI 7 from rfl, R_asked1 a10 hn hp (by omega), bind_s, c0, if_pos rfl, bind_s, right_0 th0 (by decide), bind_s, if_pos rfl, snd_, th_th]
    · refine rd_ok hG0 (r := ν 40 0 (80 + 10 * p + 8)) ?_ ?_
      · unfold f_P_decidedOn
        rw [C_pw1 s5 hn hp, bind_s]
        show chk _ _ = _
        rw [chk_of (decide_eq_true (by omega)), q7, if_neg c0, show μ 5 (24 * 0 + p) 8 = _ from q8 c0]
      · unfold f_R_decidedOn
        rw [show (7 : Int32) = nI 7 from rfl, R_asked1 a10 hn hp (by omega), bind_s]
        show ((if ν 40 0 (80 + 10 * p + 7) = 0 then _ else _ : Option Int32)).bind _ = _
        rw [if_neg c0, bind_s, right_1 th0, bind_s, if_neg n1_, snd_, R_of8 (by omega), bind_s, st3_K (by omega)]
theorem T_daysUntilDecided (hG : GR μ ν) (x : Int32) : RdOK μ ν [(xIOB, 1)] (f_P_daysUntilDecided x μ) (f_R_daysUntilDecided x ν) := by
  have hG0 := hG
  obtain ⟨s, E, P, C, O, n, w, t, dd, h, π, L, H⟩ := hG
  obtain ⟨hn, -, -, -, s1, a5, -, s5, a10, -⟩ := H.2.2.2.1.1
  rcases ixB_c x (n := n) (by omega) with ⟨e0, -⟩ | ⟨ei, p, hp, rfl⟩
  · refine rd_no hG0 (e := xIOB) (k := 1) ?_ ?_ (List.mem_singleton.mpr rfl)
    · unfold f_P_daysUntilDecided
      rw [C_pw0 s5 hn e0]; rfl
    · unfold f_R_daysUntilDecided
      rw [R_asked0 a10 hn e0, bind_s, snd_, th0, if_neg (by decide)]
  · obtain ⟨-, -, -, -, ⟨d, -, q5, b5⟩, -, q7, -, q8, -⟩ := H.2.2.2.1.2.1 p hp
    replace q7 : μ 5 (24 * 0 + p) 7 = ν 40 0 (80 + 10 * p + 7) := q7
    replace q5 : μ 5 (24 * 0 + p) 5 = nI d := q5
    refine rd_ok hG0 (r := if ν 40 0 (80 + 10 * p + 7) = 0 then nI d + 1 - nI dd else 0) ?_ ?_
    · unfold f_P_daysUntilDecided
      rw [C_pw1 s5 hn hp, bind_s]
      show chk _ _ = _
      rw [chk_of (decide_eq_true (by omega)), q7, q5, s1]
      split <;> rfl
    · unfold f_R_daysUntilDecided
      rw [show (7 : Int32) = nI 7 from rfl, R_asked1 a10 hn hp (by omega), bind_s, snd_, th0, if_pos rfl]
      show (if ν 40 0 (80 + 10 * p + 7) = 0 then _ else _) = _
      rw [R_of5 (by omega), bind_s, ib_5_524, chk_t, tn_5, st3_K (by omega), b5, a5]
      split <;> rfl
theorem T_refundOf (hG : GR μ ν) (x : Int32) : RdOK μ ν [(xIOB, 1)] (f_P_refundOf x μ) (f_R_refundOf x ν) := by
  have hG0 := hG
  obtain ⟨s, E, P, C, O, n, w, t, dd, h, π, L, H⟩ := hG
  obtain ⟨hn, -, -, -, s1, a5, -, s5, a10, -⟩ := H.2.2.2.1.1
  have n10 : (st3 ν 13 0 7 0) 40 0 10 = nI n := by rw [st3_K (by omega)]; exact a10
  rcases ixB_c x (n := n) (by omega) with ⟨e0, -⟩ | ⟨ei, p, hp, rfl⟩
  · refine rd_no hG0 (e := xIOB) (k := 1) ?_ ?_ (List.mem_singleton.mpr rfl)
    · unfold f_P_refundOf
      rw [C_pw0 s5 hn e0]; rfl
    · unfold f_R_refundOf
      rw [nm_9, R_isProphecy n10 (by omega), bind_s, e0, right_0 th0 (by decide), bind_s, if_pos rfl, snd_, th_th]
  · refine rd_ok hG0 (r := rfd (ν 40 0) (80 + 10 * p)) ?_ ?_
    · unfold f_P_refundOf
      rw [C_pw1 s5 hn hp, bind_s]
      show chk _ _ = _
      rw [chk_of (decide_eq_true (by omega)), C_refundFor H.2.1 H.2.2.1 (H.2.2.2.1.2.1 p hp), bind_s]
    · unfold f_R_refundOf
      rw [nm_9, R_isProphecy n10 (by omega), bind_s, ei, right_1 th0, bind_s, if_neg n1_, snd_, R_refund (by omega), bind_s, st3_K (by omega)]
theorem T_expectedAnswer (hG : GR μ ν) (x : Int32) : RdOK μ ν [(xIOB, 1)] (f_P_expectedAnswer x μ) (f_R_expectedAnswer x ν) := by
  have hG0 := hG
  obtain ⟨s, E, P, C, O, n, w, t, dd, h, π, L, H⟩ := hG
  obtain ⟨hn, -, -, -, s1, a5, -, s5, a10, -⟩ := H.2.2.2.1.1
  have n10 : (st3 ν 13 0 7 0) 40 0 10 = nI n := by rw [st3_K (by omega)]; exact a10
  rcases ixB_c x (n := n) (by omega) with ⟨e0, -⟩ | ⟨ei, p, hp, rfl⟩
  · refine rd_no hG0 (e := xIOB) (k := 1) ?_ ?_ (List.mem_singleton.mpr rfl)
    · unfold f_P_expectedAnswer
      rw [C_pw0 s5 hn e0]; rfl
    · unfold f_R_expectedAnswer
      rw [nm_9, R_isProphecy n10 (by omega), bind_s, e0, right_0 th0 (by decide), bind_s, if_pos rfl, snd_, th_th]
  · refine rd_ok hG0 (r := ansr (ν 40 0) (80 + 10 * p)) ?_ ?_
    · unfold f_P_expectedAnswer
      rw [C_pw1 s5 hn hp, bind_s]
      show chk _ _ = _
      rw [chk_of (decide_eq_true (by omega)), C_answerTo H.2.1 H.2.2.1 (H.2.2.2.1.2.1 p hp) H.2.2.2.1.1, bind_s]
    · unfold f_R_expectedAnswer
      rw [nm_9, R_isProphecy n10 (by omega), bind_s, ei, right_1 th0, bind_s, if_neg n1_, snd_, R_wouldAnswer (by omega), bind_s, st3_K (by omega)]
theorem T_placeInQueue (hG : GR μ ν) (x : Int32) : RdOK μ ν [(xIOB, 1)] (f_P_placeInQueue x μ) (f_R_placeInQueue x ν) := by
  have hG0 := hG
  obtain ⟨s, E, P, C, O, n, w, t, dd, h, π, L, H⟩ := hG
  obtain ⟨hn, hw, -, -, s1, a5, -, s5, a10, s8, a12, -⟩ := H.2.2.2.1.1
  have n10 : (st3 ν 13 0 7 0) 40 0 10 = nI n := by rw [st3_K (by omega)]; exact a10
  have n12 : (st3 ν 13 0 7 0) 40 0 12 = nI w := by rw [st3_K (by omega)]; exact a12
  rcases ixB_c x (n := n) (by omega) with ⟨e0, -⟩ | ⟨ei, p, hp, rfl⟩
  · refine rd_no hG0 (e := xIOB) (k := 1) ?_ ?_ (List.mem_singleton.mpr rfl)
    · unfold f_P_placeInQueue
      rw [C_hasSold s5 hn, bind_s, e0]; rfl
    · unfold f_R_placeInQueue
      rw [nm_9, R_isProphecy n10 (by omega), bind_s, e0, right_0 th0 (by decide), bind_s, if_pos rfl, snd_, th_th]
  · refine rd_ok hG0 (r := inq (ν 40 0) (nI p) w) ?_ ?_
    · unfold f_P_placeInQueue
      rw [C_hasSold s5 hn, bind_s, ei]
      show (f_Shop_requestsBefore 0 (nI p) μ).bind _ = _
      rw [C_requestsBefore s8 hw H.2.2.2.1.2.2.2.2.1, bind_s]
    · unfold f_R_placeInQueue
      rw [nm_9, R_isProphecy n10 (by omega), bind_s, ei, right_1 th0, bind_s, if_neg n1_, snd_, R_inQueue n12 hw, bind_s, st3_K (by omega)]
-- owls
theorem C_owlIx (H : GRp μ ν s E P C O n w t dd h π L) (x : Int32) : (if x < 0 then (some (0)) else (chk (decide ((μ 12 0 3).toNatClampNeg < 2)) (if (μ 7 ((μ 12 0 3).toNatClampNeg) 11) ≤ x then (some (0)) else (some (1)))) : Option (Int32)) = some (ixB x O) := by
  obtain ⟨e1, e2⟩ := H.s12
  obtain ⟨hs, hE, hP, hC, hO, -, -, -, ⟨t9, a9⟩, -⟩ := H.2.2.1
  rw [e1, e2, chk_t, t9]
  unfold ixB
  by_cases h1 : x < 0
  · rw [if_pos h1, if_pos (Or.inl h1)]
  · rw [if_neg h1]
    by_cases h2 : nI O ≤ x
    · rw [if_pos h2, if_pos (Or.inr h2)]
    · rw [if_neg h2, if_neg (by rintro (z | z); exact h1 z; exact h2 z)]
theorem R_askedOwl0 {x y : Int32} (h9 : ν 40 0 9 = nI O) (hO : O ≤ 5) (e0 : ixB x O = 0) : f_R_askedOwl x y ν = some (0, st3 ν 13 0 7 1) := by
  unfold f_R_askedOwl
  rw [nm_9, ib_9_524, chk_t, tn_9, st3_K (by omega), h9, in_ix x (by omega), bind_s, e0, right_0 th0 (by decide), bind_s, if_pos rfl, snd_, th_th]
theorem R_askedOwl1 {p f : Nat} (h9 : ν 40 0 9 = nI O) (hO : O ≤ 5) (hp : p < O) (hf : f < 5) : f_R_askedOwl (nI p) (nI f) ν = some (ν 40 0 (52 + 5 * p + f), st3 ν 13 0 7 0) := by
  unfold f_R_askedOwl
  rw [nm_9, ib_9_524, chk_t, tn_9, st3_K (by omega), h9, in_ix _ (by omega), bind_s, ixB_in (by omega) hp, right_1 th0, bind_s, if_neg n1_, snd_, R_ofOwl (by omega), bind_s, st3_K (by omega)]
theorem T_owlDays (hG : GR μ ν) (x : Int32) : RdOK μ ν [(xIOB, 1)] (f_P_owlDays x μ) (f_R_owlDays x ν) := by
  have hG0 := hG
  obtain ⟨s, E, P, C, O, n, w, t, dd, h, π, L, H⟩ := hG
  have eC := C_owlIx H x
  obtain ⟨hs, hE, hP, hC, hO, -, -, -, ⟨t9, a9⟩, -⟩ := H.2.2.1
  rcases ixB_c x (n := O) (by omega) with ⟨e0, -⟩ | ⟨ei, p, hp, rfl⟩
  · refine rd_no hG0 (e := xIOB) (k := 1) ?_ ?_ (List.mem_singleton.mpr rfl)
    · unfold f_P_owlDays
      rw [eC, bind_s, e0]; rfl
    · unfold f_R_owlDays
      rw [R_askedOwl0 a9 hO e0]; rfl
  · have hr := H.2.2.2.1.2.2.1.1 p hp
    have key : μ 4 (5 * 0 + p) 0 = ν 40 0 (52 + 5 * p + 1) := by obtain ⟨⟨d, -, q, a⟩, -⟩ := hr; exact q.trans a.symm
    refine rd_ok hG0 (r := ν 40 0 (52 + 5 * p + 1)) ?_ ?_
    · unfold f_P_owlDays
      rw [eC, bind_s, ei]
      show (f_Shop_owlWith 0 (nI p) μ).bind _ = _
      rw [C_owlWith (by omega), bind_s, chk_of (decide_eq_true (by omega)), key]
    · unfold f_R_owlDays
      rw [show (1 : Int32) = nI 1 from rfl, R_askedOwl1 a9 hO hp (by omega)]; rfl
theorem T_owlCoins (hG : GR μ ν) (x : Int32) : RdOK μ ν [(xIOB, 1)] (f_P_owlCoins x μ) (f_R_owlCoins x ν) := by
  have hG0 := hG
  obtain ⟨s, E, P, C, O, n, w, t, dd, h, π, L, H⟩ := hG
  have eC := C_owlIx H x
  obtain ⟨hs, hE, hP, hC, hO, -, -, -, ⟨t9, a9⟩, -⟩ := H.2.2.1
  rcases ixB_c x (n := O) (by omega) with ⟨e0, -⟩ | ⟨ei, p, hp, rfl⟩
  · refine rd_no hG0 (e := xIOB) (k := 1) ?_ ?_ (List.mem_singleton.mpr rfl)
    · unfold f_P_owlCoins
      rw [eC, bind_s, e0]; rfl
    · unfold f_R_owlCoins
      rw [R_askedOwl0 a9 hO e0]; rfl
  · have hr := H.2.2.2.1.2.2.1.1 p hp
    have key : μ 4 (5 * 0 + p) 1 = ν 40 0 (52 + 5 * p + 2) := by exact hr.2.1
    refine rd_ok hG0 (r := ν 40 0 (52 + 5 * p + 2)) ?_ ?_
    · unfold f_P_owlCoins
      rw [eC, bind_s, ei]
      show (f_Shop_owlWith 0 (nI p) μ).bind _ = _
      rw [C_owlWith (by omega), bind_s, chk_of (decide_eq_true (by omega)), key]
    · unfold f_R_owlCoins
      rw [show (2 : Int32) = nI 2 from rfl, R_askedOwl1 a9 hO hp (by omega)]; rfl
end Asked
