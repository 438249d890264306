/-! What only looks. -/
def RdF {α : Type} (μ ν : Mem) (cf : Option α) (mf : Option (α × Mem)) : Prop := ∃ r ν', cf = some r ∧ mf = some (r, ν') ∧ GR μ ν' ∧ outN ν ν'
section Look
variable {μ ν : Mem} {s E P C O n w t dd h L : Nat} {π : Nat → Nat}
theorem rd_ok {tab : List (String × Int32)} {cf : Option (String ⊕ Int32)} {mf : Option (Int32 × Mem)} {r : Int32} (hG : GR μ ν) (h1 : cf = some (.inr r)) (h2 : mf = some (r, st3 ν 13 0 7 0)) : RdOK μ ν tab cf mf := by
  obtain ⟨s, E, P, C, O, n, w, t, dd, h, π, L, H⟩ := hG
  exact ⟨.inr r, r, _, h1, h2, Or.inl ⟨rfl, th0⟩, (H.th (Or.inl rfl)).gr, outN.rf.st (by omega)⟩
theorem rd_no {tab : List (String × Int32)} {cf : Option (String ⊕ Int32)} {mf : Option (Int32 × Mem)} {e : String} {k : Int32} (hG : GR μ ν) (h1 : cf = some (.inl e)) (h2 : mf = some (0, st3 ν 13 0 7 k)) (ht : (e, k) ∈ tab) : RdOK μ ν tab cf mf := by
  obtain ⟨s, E, P, C, O, n, w, t, dd, h, π, L, H⟩ := hG
  exact ⟨.inl e, 0, _, h1, h2, Or.inr ⟨(e, k), ht, rfl, th0⟩, (H.th (Or.inl rfl)).gr, outN.rf.st (by omega)⟩
theorem rd_0 {cf : Option Int32} {mf : Option (Int32 × Mem)} {r : Int32} (hG : GR μ ν) (h1 : cf = some r) (h2 : mf = some (r, st3 ν 13 0 7 0)) : Rd0 μ ν cf mf := by
  obtain ⟨s, E, P, C, O, n, w, t, dd, h, π, L, H⟩ := hG
  exact ⟨r, _, h1, h2, (H.th (Or.inl rfl)).gr, outN.rf.st (by omega)⟩
theorem rd_F {α : Type} {cf : Option α} {mf : Option (α × Mem)} {r : α} (hG : GR μ ν) (h1 : cf = some r) (h2 : mf = some (r, st3 ν 13 0 7 0)) : RdF μ ν cf mf := by
  obtain ⟨s, E, P, C, O, n, w, t, dd, h, π, L, H⟩ := hG
  exact ⟨r, _, h1, h2, (H.th (Or.inl rfl)).gr, outN.rf.st (by omega)⟩
theorem GRp.s12 (H : GRp μ ν s E P C O n w t dd h π L) : (μ 12 0 3).toNatClampNeg = s ∧ decide (s < 2) = true := by
  have := H.2.2.1.1
  rw [H.1.1, nI_clamp (by omega)]
  exact ⟨rfl, decide_eq_true this⟩
theorem tells_ (k : Nat) (hk : k < 524) : f_R_tells (nI k) ν = some (ν 40 0 k, st3 ν 13 0 7 0) := by
  unfold f_R_tells
  rw [nm_9, chk_of (inb_of hk (by omega)), nI_clamp (by omega), st3_K (by omega)]
theorem T_tell {cf : Option Int32} (hG : GR μ ν) (k : Nat) (hk : k < 524) (h1 : cf = some (ν 40 0 k)) : Rd0 μ ν cf ((f_R_tells (nI k) ν).bind (fun r1 => some (r1.1, r1.2))) :=
  rd_0 hG h1 (by rw [tells_ k hk]; rfl)
theorem T_errorCode (hG : GR μ ν) : Rd0 μ ν (f_P_errorCode μ) (f_R_errorCode ν) := by
  have hG0 := hG
  obtain ⟨s, E, P, C, O, n, w, t, dd, h, π, L, H⟩ := hG
  refine rd_0 hG0 (r := ν 13 0 10) ?_ ?_
  · unfold f_P_errorCode; rw [H.2.2.2.2.2.2.2.2.1.1]
  · unfold f_R_errorCode; rw [nm_9, st3_ua, ua_N (by omega)]
theorem T_errorPosition (hG : GR μ ν) : Rd0 μ ν (f_P_errorPosition μ) (f_R_errorPosition ν) := by
  have hG0 := hG
  obtain ⟨s, E, P, C, O, n, w, t, dd, h, π, L, H⟩ := hG
  refine rd_0 hG0 (r := ν 13 0 11) ?_ ?_
  · unfold f_P_errorPosition; rw [H.2.2.2.2.2.2.2.2.1.2]
  · unfold f_R_errorPosition; rw [nm_9, st3_ua, ua_N (by omega)]
theorem T_day (hG : GR μ ν) : Rd0 μ ν (f_P_day μ) (f_R_day ν) := by
  have hG0 := hG
  obtain ⟨s, E, P, C, O, n, w, t, dd, h, π, L, H⟩ := hG
  obtain ⟨-, -, -, -, s1, a5, -⟩ := H.2.2.2.1.1
  exact T_tell hG0 5 (by omega) (by unfold f_P_day; rw [s1, a5])
theorem T_cash (hG : GR μ ν) : Rd0 μ ν (f_P_cash μ) (f_R_cash ν) := by
  have hG0 := hG
  obtain ⟨s, E, P, C, O, n, w, t, dd, h, π, L, H⟩ := hG
  obtain ⟨-, -, -, -, s1, a5, s2, -⟩ := H.2.2.2.1.1
  exact T_tell hG0 0 (by omega) (by unfold f_P_cash; rw [s2])
theorem T_eventCount (hG : GR μ ν) : Rd0 μ ν (f_P_eventCount μ) (f_R_eventCount ν) := by
  have hG0 := hG
  obtain ⟨s, E, P, C, O, n, w, t, dd, h, π, L, H⟩ := hG
  obtain ⟨e1, e2⟩ := H.s12
  obtain ⟨-, -, -, -, -, ⟨t6, a6⟩, -⟩ := H.2.2.1
  exact T_tell hG0 6 (by omega) (by unfold f_P_eventCount; rw [e1, e2, chk_t, t6, a6])
theorem T_placeCount (hG : GR μ ν) : Rd0 μ ν (f_P_placeCount μ) (f_R_placeCount ν) := by
  have hG0 := hG
  obtain ⟨s, E, P, C, O, n, w, t, dd, h, π, L, H⟩ := hG
  obtain ⟨e1, e2⟩ := H.s12
  obtain ⟨-, -, -, -, -, -, ⟨t6, a6⟩, -⟩ := H.2.2.1
  exact T_tell hG0 7 (by omega) (by unfold f_P_placeCount; rw [e1, e2, chk_t, t6, a6])
theorem T_customerCount (hG : GR μ ν) : Rd0 μ ν (f_P_customerCount μ) (f_R_customerCount ν) := by
  have hG0 := hG
  obtain ⟨s, E, P, C, O, n, w, t, dd, h, π, L, H⟩ := hG
  obtain ⟨e1, e2⟩ := H.s12
  obtain ⟨-, -, -, -, -, -, -, ⟨t6, a6⟩, -⟩ := H.2.2.1
  exact T_tell hG0 8 (by omega) (by unfold f_P_customerCount; rw [e1, e2, chk_t, t6, a6])
theorem T_prophecyCount (hG : GR μ ν) : Rd0 μ ν (f_P_prophecyCount μ) (f_R_prophecyCount ν) := by
  have hG0 := hG
  obtain ⟨s, E, P, C, O, n, w, t, dd, h, π, L, H⟩ := hG
  obtain ⟨-, -, -, -, s1, a5, s2, s5, a10, -⟩ := H.2.2.2.1.1
  exact T_tell hG0 10 (by omega) (by unfold f_P_prophecyCount; rw [s5, a10])
theorem T_queueLength (hG : GR μ ν) : Rd0 μ ν (f_P_queueLength μ) (f_R_queueLength ν) := by
  have hG0 := hG
  obtain ⟨s, E, P, C, O, n, w, t, dd, h, π, L, H⟩ := hG
  obtain ⟨-, -, -, -, s1, a5, s2, s5, a10, s8, a12, -⟩ := H.2.2.2.1.1
  exact T_tell hG0 12 (by omega) (by unfold f_P_queueLength; rw [s8, a12])
theorem T_handledRequests (hG : GR μ ν) : Rd0 μ ν (f_P_handledRequests μ) (f_R_handledRequests ν) := by
  have hG0 := hG
  obtain ⟨s, E, P, C, O, n, w, t, dd, h, π, L, H⟩ := hG
  obtain ⟨-, -, -, -, s1, a5, s2, s5, a10, s8, a12, s12, a11, s13, s14⟩ := H.2.2.2.1.1
  exact T_tell hG0 13 (by omega) (by unfold f_P_handledRequests; rw [s13])
theorem T_refundTotal (hG : GR μ ν) : Rd0 μ ν (f_P_refundTotal μ) (f_R_refundTotal ν) := by
  have hG0 := hG
  obtain ⟨s, E, P, C, O, n, w, t, dd, h, π, L, H⟩ := hG
  obtain ⟨-, -, -, -, s1, a5, s2, s5, a10, s8, a12, s12, a11, s13, s14⟩ := H.2.2.2.1.1
  exact T_tell hG0 14 (by omega) (by unfold f_P_refundTotal; rw [s14])
-- the purse
theorem T_purse (hG : GR μ ν) (x : Int32) : RdOK μ ν [(xIOB, 1)] (f_P_purse x μ) (f_R_purse x ν) := by
  have hG0 := hG
  obtain ⟨s, E, P, C, O, n, w, t, dd, h, π, L, H⟩ := hG
  obtain ⟨e1, e2⟩ := H.s12
  obtain ⟨hs, hE, hP, hC, hO, -, -, ⟨t8, a8⟩, -⟩ := H.2.2.1
  have n8 : (st3 ν 13 0 7 0) 40 0 8 = nI C := by rw [st3_K (by omega)]; exact a8
  rcases ixB_c x (n := C) (by omega) with ⟨e0, -⟩ | ⟨ei, c, hc, rfl⟩
  · refine rd_no hG0 ?_ ?_ (List.mem_singleton.mpr rfl)
    · unfold f_P_purse
      rw [e1, e2, chk_t, C_has t8, bind_s, e0]; rfl
    · unfold f_R_purse
      rw [nm_9, R_isCustomer n8 (by omega), bind_s, e0, right_0 th0 (by decide), bind_s, if_pos rfl, snd_, th_th]
  · refine rd_ok hG0 (r := ν 40 0 (28 + 3 * c + 1)) ?_ ?_
    · unfold f_P_purse
      rw [e1, e2, chk_t, C_has t8, bind_s, ei]
      show (f_Shop_coinsOf 0 (nI c) μ).bind _ = _
      rw [C_coinsOf (by omega), bind_s, H.2.2.2.1.2.2.2.1.1 c hc]
    · unfold f_R_purse
      rw [nm_9, R_isCustomer n8 (by omega), bind_s, ei, right_1 th0, bind_s, if_neg n1_, snd_, R_ofCustomer1 (by omega), bind_s, st3_K (by omega)]
-- happenings
theorem C_finds (H : GRp μ ν s E P C O n w t dd h π L) (x y : Int32) {α : Type} (F : Int32 → Option α) : chk (decide ((μ 12 0 3).toNatClampNeg < 2)) (((f_Names_has (3 * ((μ 12 0 3).toNatClampNeg)) x μ)).bind (fun r2 => ((if r2 = 0 then (some (0)) else (chk (decide ((μ 12 0 3).toNatClampNeg < 2)) (((f_Names_has (3 * ((μ 12 0 3).toNatClampNeg) + 1) y μ)).bind (fun r9 => if r9 = 0 then (some (0)) else (some (1))))) : Option (Int32))).bind F)) = F (if ixB x E = 0 then 0 else ixB y P) := by
  obtain ⟨e1, e2⟩ := H.s12
  obtain ⟨hs, hE, hP, hC, hO, ⟨t6, a6⟩, ⟨t7, a7⟩, -⟩ := H.2.2.1
  rw [e1, e2, chk_t, chk_t, C_has t6, bind_s, C_has t7, bind_s]
  by_cases c : ixB x E = 0
  · rw [if_pos c, if_pos c, bind_s]
  · rw [if_neg c, if_neg c]
    by_cases c' : ixB y P = 0
    · rw [if_pos c', c', bind_s]
    · rw [if_neg c', bind_s]
      congr 1
      unfold ixB at c' ⊢
      split
      · rename_i z; rw [if_pos z] at c'; exact absurd rfl c'
      · rfl
theorem R_finds (H : GRp μ ν s E P C O n w t dd h π L) (x y : Int32) : f_R_finds x y ν = if (if ixB x E = 0 then 0 else ixB y P) = 0 then some (0, st3 ν 13 0 7 1) else some (1, st3 ν 13 0 7 0) := by
  obtain ⟨hs, hE, hP, hC, hO, ⟨t6, a6⟩, ⟨t7, a7⟩, -⟩ := H.2.2.1
  have n6 : (st3 ν 13 0 7 0) 40 0 6 = nI E := by rw [st3_K (by omega)]; exact a6
  have n7 : (st3 ν 13 0 7 0) 40 0 7 = nI P := by rw [st3_K (by omega)]; exact a7
  unfold f_R_finds
  rw [nm_9, R_isEvent n6 (by omega), bind_s, R_isPlace n7 (by omega), bind_s]
  by_cases c : ixB x E = 0
  · rw [if_pos c, if_pos c, if_pos rfl, bind_s, right_0 th0 (by decide), bind_s, th_th]; exact chk_of (nb01 (Or.inl rfl))
  · rw [if_neg c, if_neg c]
    by_cases c' : ixB y P = 0
    · rw [if_pos c', if_pos c', bind_s, right_0 th0 (by decide), bind_s, th_th]; exact chk_of (nb01 (Or.inl rfl))
    · rw [if_neg c', if_neg c', bind_s, right_1 th0, bind_s]; exact chk_of (nb01 (Or.inr rfl))
theorem ix_01 (x : Int32) (n : Nat) : ixB x n = 0 ∨ ixB x n = 1 := by unfold ixB; split; exact Or.inl rfl; exact Or.inr rfl
theorem ix2 (x y : Int32) (E P : Nat) : (if ixB x E = 0 then 0 else ixB y P) = 0 ∨ (if ixB x E = 0 then 0 else ixB y P) = 1 := by
  split
  · exact Or.inl rfl
  · exact ix_01 y P
theorem T_timesHappened (hG : GR μ ν) (x y : Int32) : RdOK μ ν [(xIOB, 1)] (f_P_timesHappened x y μ) (f_R_timesHappened x y ν) := by
  have hG0 := hG
  obtain ⟨s, E, P, C, O, n, w, t, dd, h, π, L, H⟩ := hG
  have hr := R_finds H x y
  obtain ⟨hn, hw, ht, -, -, -, -, -, -, -, -, s12, a11, -⟩ := H.2.2.2.1.1
  have n11 : (st3 ν 13 0 7 0) 40 0 11 = nI t := by rw [st3_K (by omega)]; exact a11
  have hC : f_P_timesHappened x y μ = ((f_P_throwIfMissing (if ixB x E = 0 then 0 else ixB y P) μ)).bind (fun r4 => els r4 (fun E5 => some ((.inl E5))) (fun v6 => ((f_Shop_countHappenings 0 x y μ)).bind (fun r7 => some (.inr r7)))) := by
    unfold f_P_timesHappened
    exact C_finds H x y _
  rcases ix2 x y E P with c | c
  · rw [c, if_pos rfl] at hr
    rw [c] at hC
    refine rd_no hG0 (e := xIOB) (k := 1) (by rw [hC]; rfl) ?_ (List.mem_singleton.mpr rfl)
    unfold f_R_timesHappened
    rw [hr, bind_s, if_pos rfl]
  · rw [c, if_neg (by decide)] at hr
    rw [c] at hC
    refine rd_ok hG0 (r := nI (hap (ν 40 0) x y t)) ?_ ?_
    · rw [hC]
      show (f_Shop_countHappenings 0 x y μ).bind _ = _
      rw [C_countHappenings s12 ht H.2.2.2.1.2.2.2.2.2, bind_s]
    · unfold f_R_timesHappened
      rw [hr, bind_s, if_neg n1_, snd_, R_noted n11 ht, bind_s, st3_K (by omega)]
theorem T_hasHappened (hG : GR μ ν) (x y z : Int32) : RdOK μ ν [(xIOB, 1)] (f_P_hasHappened x y z μ) (f_R_hasHappened x y z ν) := by
  have hG0 := hG
  obtain ⟨s, E, P, C, O, n, w, t, dd, h, π, L, H⟩ := hG
  have hr := R_finds H x y
  have hN := H.2.2.2.1.2.2.2.2.2
  obtain ⟨hn, hw, ht, -, -, -, -, -, -, -, -, s12, a11, -⟩ := H.2.2.2.1.1
  have n11 : (st3 ν 13 0 7 0) 40 0 11 = nI t := by rw [st3_K (by omega)]; exact a11
  have hle : hapd (ν 40 0) x y z t ≤ t := ct_le
  have hC : f_P_hasHappened x y z μ = ((f_P_throwIfMissing (if ixB x E = 0 then 0 else ixB y P) μ)).bind (fun r4 => els r4 (fun E5 => some ((.inl E5))) (fun v6 => ((f_Shop_isNoted 0 x y z μ)).bind (fun r7 => chk (nb .boolean r7) (some (.inr r7))))) := by
    unfold f_P_hasHappened
    exact C_finds H x y _
  rcases ix2 x y E P with c | c
  · rw [c, if_pos rfl] at hr
    rw [c] at hC
    refine rd_no hG0 (e := xIOB) (k := 1) (by rw [hC]; rfl) ?_ (List.mem_singleton.mpr rfl)
    unfold f_R_hasHappened
    rw [hr, bind_s, if_pos rfl]
  · rw [c, if_neg (by decide)] at hr
    rw [c] at hC
    refine rd_ok hG0 (r := if hapd (ν 40 0) x y z t = 0 then 0 else 1) ?_ ?_
    · rw [hC]
      show (f_Shop_isNoted 0 x y z μ).bind _ = _
      rw [C_isNoted s12 ht hN, bind_s, chk_of (nb01 (by split; exact Or.inl rfl; exact Or.inr rfl))]
    · unfold f_R_hasHappened
      rw [hr, bind_s, if_neg n1_, snd_]
      by_cases cz : z < 0
      · rw [if_pos cz]
        have : hapd (ν 40 0) x y z t = 0 := by
          unfold hapd
          rw [ct_zero]
          intro i hi
          obtain ⟨-, -, -, -, v, hv, e⟩ := hN i hi
          have : ¬ ν 40 0 (320 + 3 * i + 2) = z := fun q => absurd cz (by rw [← q, e]; exact nI_pos (by omega))
          rw [decide_eq_false this]
          simp
        rw [if_pos this]
      · rw [if_neg cz, R_notedd (fun q => cz (by rw [q]; decide)) n11 ht, bind_s, st3_K (by omega)]
        by_cases c0 : hapd (ν 40 0) x y z t = 0
        · rw [c0, if_pos (by decide), if_pos rfl]
        · rw [if_neg (le_0 (by omega) (by omega)), if_neg c0]
end Look
