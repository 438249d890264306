/-! The script's reader: behind an error; names, kinds. -/
section Script1
variable {K : Nat} {s : Nat} {μ ν : Mem} {B : Nat → Nat} {L E P C O : Nat}
theorem n6_ : (6 : Nat) = 6 ∨ (6 : Nat) = 8 := Or.inl rfl
theorem num_erC {a b : Int32} (h : μ K 0 4 ≠ 0) : f_Reader_takeNumber K a b μ = some (a, μ) := by
  unfold f_Reader_takeNumber
  rw [if_neg h, fail_er h, bind_s]
theorem ssign_er {c : Int32} (h : μ K 0 4 ≠ 0) : f_Reader_seesSign K c μ = some 0 := by
  unfold f_Reader_seesSign
  rw [if_neg h]
theorem sign_erC {c : Int32} (h : μ K 0 4 ≠ 0) : f_Reader_takeSign K c μ = some μ := by
  unfold f_Reader_takeSign
  rw [ssign_er h, bind_s, if_pos rfl, fail_er h, bind_s]
theorem word_erC {w : Nat} (h : μ K 0 4 ≠ 0) : f_Reader_takeWord K w μ = some μ := by
  unfold f_Reader_takeWord
  rw [sees_er h, bind_s, if_pos rfl, fail_er h, bind_s]
theorem name_erC {j cnt : Nat} (h : μ K 0 4 ≠ 0) (hc : μ 3 j 1 = nI cnt) (hc8 : cnt ≤ 8) : ∃ x, f_Reader_takeName K j μ = some (x, μ) := by
  unfold f_Reader_takeName f_Reader_codeOfName
  rw [if_neg h, fail_er h, bind_s, bind_s, C_find hc hc8, bind_s]
  refine ⟨fdI (fun k => decide (μ 23 j k = 0)) 0 cnt, ?_⟩
  split
  · rw [fail_er h, bind_s, bind_s, if_neg h]
  · rw [bind_s, if_neg h]
theorem kind_erC (h : μ 6 0 4 ≠ 0) : f_Script_takeProphecyKind μ = some (0, μ) := by
  unfold f_Script_takeProphecyKind
  rw [sees_er h, bind_s, if_pos rfl, sees_er h, bind_s, if_pos rfl, word_erC h, bind_s]
theorem P_takeE (h : RS0 6 μ ν B L) (hT : ST μ s (ν 40 0) E P C O) : ∃ x y m v, f_Reader_takeName 6 (3 * s) μ = some (x, m) ∧ f_R_takesEvent ν = some (y, v) ∧ PO 6 μ ν m v B L ∧ (m 6 0 4 = 0 → x = y) := by
  obtain ⟨t1, t2, t3, t4, t5, t6, t7, t8, t9, t10, t11, t12, t13, t14, t15, t16, -⟩ := hT
  have hg : ∀ y v, (∀ K', K' ≠ 13 → v K' = ν K') → f_R_eventNamed y v = some (fdI (fun k => decide (ν 40 0 (16 + 1 * k) = y)) 0 E) := fun y v hv => by
    unfold f_R_eventNamed
    rw [ib_6_524, chk_t, tn_6, hv 40 (by omega), t6.2, show (16 : Int32) = nI 16 from rfl, show (1 : Int32) = nI 1 from rfl, R_named (by omega) (by omega) (by omega), bind_s, hv 40 (by omega)]
  obtain ⟨x, y, m, v1, v, q, n1, n2, n3, n4, n5, n6⟩ := P_take (j := 3 * s) (b0 := 16) (st := 1) (cnt := E) (m0 := E) (g := f_R_eventNamed) n6_ h t6.1 (by omega) hg (fun _ => ⟨rfl, fun k hk => by rw [Nat.one_mul]; exact t14 k hk⟩)
  refine ⟨x, q, m, v, n1, ?_, n5, fun z => (n6 z).1⟩
  unfold f_R_takesEvent
  rw [bind_if] at n4
  rw [n2, bind_s, n3, bind_s, bind_if, n4, bind_s]
theorem P_takeP (h : RS0 6 μ ν B L) (hT : ST μ s (ν 40 0) E P C O) : ∃ x y m v, f_Reader_takeName 6 (3 * s + 1) μ = some (x, m) ∧ f_R_takesPlace ν = some (y, v) ∧ PO 6 μ ν m v B L ∧ (m 6 0 4 = 0 → x = y) := by
  obtain ⟨t1, t2, t3, t4, t5, t6, t7, t8, t9, t10, t11, t12, t13, t14, t15, t16, -⟩ := hT
  have hg : ∀ y v, (∀ K', K' ≠ 13 → v K' = ν K') → f_R_placeNamed y v = some (fdI (fun k => decide (ν 40 0 (22 + 1 * k) = y)) 0 P) := fun y v hv => by
    unfold f_R_placeNamed
    rw [ib_7_524, chk_t, tn_7, hv 40 (by omega), t7.2, show (22 : Int32) = nI 22 from rfl, show (1 : Int32) = nI 1 from rfl, R_named (by omega) (by omega) (by omega), bind_s, hv 40 (by omega)]
  obtain ⟨x, y, m, v1, v, q, n1, n2, n3, n4, n5, n6⟩ := P_take (j := 3 * s + 1) (b0 := 22) (st := 1) (cnt := P) (m0 := P) (g := f_R_placeNamed) n6_ h t7.1 (by omega) hg (fun _ => ⟨rfl, fun k hk => by rw [Nat.one_mul]; exact t15 k hk⟩)
  refine ⟨x, q, m, v, n1, ?_, n5, fun z => (n6 z).1⟩
  unfold f_R_takesPlace
  rw [bind_if] at n4
  rw [n2, bind_s, n3, bind_s, bind_if, n4, bind_s]
theorem P_takeC (h : RS0 6 μ ν B L) (hT : ST μ s (ν 40 0) E P C O) : ∃ x y m v, f_Reader_takeName 6 (3 * s + 2) μ = some (x, m) ∧ f_R_takesCustomer ν = some (y, v) ∧ PO 6 μ ν m v B L ∧ (m 6 0 4 = 0 → x = y) := by
  obtain ⟨t1, t2, t3, t4, t5, t6, t7, t8, t9, t10, t11, t12, t13, t14, t15, t16, -⟩ := hT
  have hg : ∀ y v, (∀ K', K' ≠ 13 → v K' = ν K') → f_R_customerNamed y v = some (fdI (fun k => decide (ν 40 0 (28 + 3 * k) = y)) 0 C) := fun y v hv => by
    unfold f_R_customerNamed
    rw [ib_8_524, chk_t, tn_8, hv 40 (by omega), t8.2, show (28 : Int32) = nI 28 from rfl, show (3 : Int32) = nI 3 from rfl, R_named (by omega) (by omega) (by omega), bind_s, hv 40 (by omega)]
  obtain ⟨x, y, m, v1, v, q, n1, n2, n3, n4, n5, n6⟩ := P_take (j := 3 * s + 2) (b0 := 28) (st := 3) (cnt := C) (m0 := C) (g := f_R_customerNamed) n6_ h t8.1 (by omega) hg (fun _ => ⟨rfl, fun k hk => (t16 k hk).1⟩)
  refine ⟨x, q, m, v, n1, ?_, n5, fun z => (n6 z).1⟩
  unfold f_R_takesCustomer
  rw [bind_if] at n4
  rw [n2, bind_s, n3, bind_s, bind_if, n4, bind_s]
/-- the first letter of a word that is seen -/
theorem sees_first {w : Nat} (h : f_Reader_sees K w μ = some 1) (hw : 1 ≤ (sTx w).length) (hl : (sTx w).length ≤ 20) : f_Text_at (μ K 0 2) μ = some (sAt w 0) := by
  unfold f_Reader_sees at h
  split at h
  · split at h
    · split at h
      · have e : it (fun (s : Int32) => s_Reader_sees_35 K w s μ) LIM 0 = it (fun (s : Int32) => s_Reader_sees_35 K w s μ) (2999999 + 1) 0 := rfl
        rw [e] at h
        unfold it at h
        have hs : s_Reader_sees_35 K w 0 μ = (f_Text_at ((μ K 0 2) + 0) μ).bind (fun r1 => chk (inb 0 (sTx w).length) (if r1 = (sAt w 0) then (some (.inl ((0 : Int32) + 1))) else (some (.inr (.inr 0))))) := by
          unfold s_Reader_sees_35
          rw [if_neg (show ¬ sLen w ≤ 0 from le_0 (k := (sTx w).length) hw (by omega))]
        rw [Int32.add_zero] at hs
        cases ha : f_Text_at (μ K 0 2) μ with
        | none =>
          rw [ha] at hs
          replace hs : s_Reader_sees_35 K w 0 μ = none := hs
          rw [hs] at h
          exact absurd h (by intro z; cases z)
        | some r =>
          by_cases c : r = sAt w 0
          · rw [c]
          · rw [ha, bind_s, chk_of (show inb 0 (sTx w).length = true from inb_of (i := 0) hw (by omega)), if_neg c] at hs
            rw [hs] at h
            exact absurd h (by
              intro z
              replace z : (some (0 : Int32)) = some 1 := z
              exact absurd (Option.some.inj z) (by decide))
      · exact absurd (Option.some.inj h) (by decide)
    · exact absurd (Option.some.inj h) (by decide)
  · exact absurd (Option.some.inj h) (by decide)
theorem sees_two {w w' : Nat} (h : f_Reader_sees K w μ = some 1) (h' : f_Reader_sees K w' μ = some 1) (hw : 1 ≤ (sTx w).length ∧ (sTx w).length ≤ 20) (hw' : 1 ≤ (sTx w').length ∧ (sTx w').length ≤ 20) (hne : sAt w 0 ≠ sAt w' 0) : False := by
  have e1 := sees_first h hw.1 hw.2
  have e2 := sees_first h' hw'.1 hw'.2
  rw [e1] at e2
  exact hne (Option.some.inj e2)
theorem P_kind (h : RS0 6 μ ν B L) : ∃ x y m v, f_Script_takeProphecyKind μ = some (x, m) ∧ f_R_takesSort ν = some (y, v) ∧ PO 6 μ ν m v B L ∧ (m 6 0 4 = 0 → x = y ∧ (x = 1 ∨ x = 0 ∨ x = 2)) ∧ (x = 1 ↔ y = 1) := by
  have he := h.er
  obtain ⟨rv, v1, v2, v3⟩ := P_sees (w := 8) (w' := 38) rfl (by decide) h
  obtain ⟨rn, n1, n2, n3⟩ := P_sees (w := 9) (w' := 39) rfl (by decide) h
  obtain ⟨rp, p1, p2, p3⟩ := P_sees (w := 10) (w' := 37) rfl (by decide) h
  -- a word that is seen is taken
  have tk : ∀ w, f_Reader_sees 6 w μ = some 1 → μ 6 0 4 = 0 → ∃ m v, f_Reader_takeWord 6 w μ = some m ∧ f_R_must 1 1 ν = some (1, ν) ∧ f_R_goesOn ν = some v ∧ PO 6 μ ν m v B L := fun w hw z => by
    obtain ⟨m, v, g1, g2, g3, -⟩ := P_go n6_ h
    exact ⟨m, v, by unfold f_Reader_takeWord; rw [hw, bind_s, if_neg (by decide), g1, bind_s], must_ok (by rw [← he]; exact z), by rw [goes_ok (by rw [← he]; exact z), g2], g3⟩
  unfold f_Script_takeProphecyKind f_R_takesSort
  rw [v1, bind_s, n1, bind_s, p2, bind_s, v2, bind_s, n2, bind_s]
  rcases v3 with rfl | ⟨rfl, z, -⟩
  · rw [if_pos rfl]
    rcases n3 with rfl | ⟨rfl, z, -⟩
    · rw [if_pos rfl, if_pos rfl, if_pos rfl]
      rcases p3 with rfl | ⟨rfl, z, -⟩
      · obtain ⟨m, v, f1, f2, f3, f4⟩ := P_fail (c := 1) n6_ (by decide) h
        refine ⟨0, -1, m, v, ?_, ?_, f3, fun q => absurd q f4, by decide⟩
        · unfold f_Reader_takeWord
          rw [p1, bind_s, if_pos rfl, f1, bind_s, bind_s]
        · rw [if_pos rfl, bind_s, if_pos rfl, bind_s, f2, bind_s, snd_, goes_er (by rw [← f3.1.er]; exact f4), bind_s]
      · obtain ⟨m, v, g1, g2, g3, g4⟩ := tk 10 p1 z
        exact ⟨0, 0, m, v, by rw [g1, bind_s], by rw [if_neg (by decide), bind_s, if_neg (by decide), bind_s, g2, bind_s, snd_, g3, bind_s], g4, fun _ => ⟨rfl, Or.inr (Or.inl rfl)⟩, by decide⟩
    · have rp0 : rp = 0 := by
        rcases p3 with q | ⟨rfl, -, -⟩
        · exact q
        · exact absurd (sees_two n1 p1 (by decide) (by decide) (by decide)) id
      subst rp0
      obtain ⟨m, v, g1, g2, g3, g4⟩ := tk 9 n1 z
      exact ⟨2, 2, m, v, by rw [if_neg (by decide), g1, bind_s], by rw [if_pos rfl, if_pos rfl, if_neg (by decide), bind_s, if_neg (by decide), bind_s, g2, bind_s, snd_, g3, bind_s], g4, fun _ => ⟨rfl, Or.inr (Or.inr rfl)⟩, by decide⟩
  · have rp0 : rp = 0 := by
      rcases p3 with q | ⟨rfl, -, -⟩
      · exact q
      · exact absurd (sees_two v1 p1 (by decide) (by decide) (by decide)) id
    subst rp0
    obtain ⟨m, v, g1, g2, g3, g4⟩ := tk 8 v1 z
    exact ⟨1, 1, m, v, by rw [if_neg (by decide), g1, bind_s], by rw [if_pos rfl, if_neg (by decide), bind_s, if_neg (by decide), bind_s, g2, bind_s, snd_, g3, bind_s], g4, fun _ => ⟨rfl, Or.inl rfl⟩, by decide⟩
end Script1
