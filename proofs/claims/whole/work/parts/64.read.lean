/-! All commands are read: the two loops together. -/
section ReadAll
variable {s x c p h : Nat} {μ ν m v : Mem} {B : Nat → Nat} {L E P C O : Nat}
theorem isSign_er {k : Int32} (h : ν 13 0 16 ≠ 0) : f_R_isSign k ν = some 0 := by
  unfold f_R_isSign
  rw [if_neg h]
theorem isSign_end {k : Int32} (h : ν 13 0 14 = 0) : f_R_isSign k ν = some 0 := by
  unfold f_R_isSign
  rw [if_neg (show ¬ ν 13 0 14 = 3 by rw [h]; decide)]
  split <;> rfl
theorem sign_erM {k : Int32} (h : ν 13 0 16 ≠ 0) : f_R_takesSign k ν = some ν := by
  unfold f_R_takesSign
  rw [isSign_er h, bind_s, must_er h, bind_s]
  dsimp only
  rw [goes_er h, bind_s]
theorem rcs_er {n : Nat} {y : Int32} (h : ν 13 0 16 ≠ 0) : f_R_rcs (n + 1) y ν = some ν := by
  show f_R_readsCommands (f_R_rcs n) y ν = _
  unfold f_R_readsCommands
  rw [show it (fun (s : Mem) => s_R_readsCommands_0 (f_R_rcs n) y s) LIM ν = some ν from it_r (f := fun (s : Mem) => s_R_readsCommands_0 (f_R_rcs n) y s) (n := 2999999) (by
    show s_R_readsCommands_0 (f_R_rcs n) y ν = _
    unfold s_R_readsCommands_0
    rw [if_neg h]), bind_s]
theorem P_command {FF : Int32 → Mem → Option Mem} (hx : x + h = 2) (hI : SI s x c p μ ν B L E P C O) (hend : ν 13 0 14 ≠ 0) (hs : f_R_isSign 41 ν = some 0) (hE : ∀ y v, v 13 0 16 ≠ 0 → FF y v = some v)
    (hA : ∀ h', h = h' + 1 → ∀ c p μ ν, SI s (x + 1) c p μ ν B L E P C O → ∃ v, FF (nI (x + 1)) ν = some v ∧ OUTa s (x + 1) c p h' μ ν B L E P C O v) :
    ∃ m1 v, rdS s (nI p, μ) = some (.inl (nI p + 1, m1)) ∧ f_R_readsCommand FF (nI x) ν = some v ∧ OUTc s x c p h μ ν B L E P C O (nI p + 1) m1 v := by
  have hp := hI.pl
  rcases P_which (s := s) hI.1 with ⟨h1, h2⟩ | ⟨kd, hk, hw, hh, hC⟩
  · obtain ⟨m1, v, f1, f2, f3, f4⟩ := P_fail (c := 1) n6_ (by decide) hI.1
    exact ⟨m1, v, by rw [rd_cmd hI hend hs h2, f1]; rfl, R_none h1 f2, OUTc.bad f3.2.1.fb f3.1 f4 hp⟩
  · by_cases hc : c = 30
    · obtain ⟨i, m, v, a1, a2, a3, a4, a5, a6, a7⟩ := E_add (act := nI kd) hI hw hc
      obtain ⟨m', b1, b2⟩ := E_tail (i := i) hk a5 a6
      refine ⟨m', v, by rw [rd_cmd hI hend hs (hC i m a1 a2), b1]; rfl, R_full hI hk hh hc a3, OUTc.bad ?_ ?_ ?_ hp⟩
      · exact ⟨fun K k1 k2 k3 => by rw [b2 K k2]; exact a7.1 K k1 k2 k3, fun j hj => by omega, fun z hz => by omega, a7.2.2.2⟩
      · exact a4.cong (b2 6 (by omega)) (b2 11 (by omega)) (b2 20 (by omega)) rfl rfl
      · rw [b2 6 (by omega)]; exact a5
    · have hc2 : c < 30 := by have := hI.2.2.2.2.2.2.1; omega
      obtain ⟨m, v, a1, a2, a3, a4, a5, a6, a7⟩ := P_add (act := nI kd) hI hw hc2
      have hR := R_more (FF := FF) hI hk hh hc2 a3
      by_cases hk4 : kd = 4
      · subst hk4
        rw [if_pos (show nI 4 = 4 from rfl)] at hR
        have hpx : p + x ≤ 2 * c := hI.2.2.2.2.2.2.2.1
        obtain ⟨m1, v1, o1, o2, o3, o4, o5⟩ := P_open hpx a4
        have F1 : FB p c x μ m1 ν v1 := a5.tr o4 (Nat.le_refl _) (Nat.le_refl _) (Nat.le_refl x)
        have hcl := rd_cmd hI hend hs (hC p m a1 a2)
        rw [o1, bind_s] at hcl
        rw [bind_id, o2] at hR
        rcases o5 with q | ⟨q1, q2, q3, q4, q5⟩
        · have q' : v1 13 0 16 ≠ 0 := by rw [← o3.er]; exact q
          have q'' : (st3 v1 48 0 (7 * c + 1) (v1 13 0 20)) 13 0 16 ≠ 0 := by rw [st3_K (by omega)]; exact q'
          refine ⟨m1, st3 v1 48 0 (7 * c + 1) (v1 13 0 20), hcl, ?_, OUTc.bad ((F1.less (by omega) (by omega) (by omega)).laid (Nat.zero_le _)) (o3.cong2 (fun _ _ _ => rfl) rfl rfl (fun f _ => by rw [st3_K (by omega)]) (by rw [st3_K (by omega)])) q hp⟩
          rw [hR, hE _ _ q', bind_s, sign_erM q', bind_s, lays1 hc2, bind_s, sign_erM q'', bind_s]
        · have hh : ∃ h', h = h' + 1 := ⟨h - 1, by have := q1.2.2.2.2.2.2.2.2.1; omega⟩
          obtain ⟨h', rfl⟩ := hh
          obtain ⟨v2, g1, t, n', m2, g2, g3⟩ := hA h' rfl (c + 1) (p + 1) m1 v1 q1
          rw [g1, bind_s] at hR
          rcases g3 with ⟨b1, b2, b3⟩ | ⟨b1, N, c', p', e1, e2, e3, e4, e5, e6⟩
          · have z := b2.er
            have z2 : (st3 v2 48 0 (7 * c + 1) (v2 13 0 20)) 13 0 16 ≠ 0 := by rw [st3_K (by omega)]; exact z
            refine ⟨m1, st3 v2 48 0 (7 * c + 1) (v2 13 0 20), hcl, ?_, t, n', m2, by rw [nI_1]; exact g2, Or.inl ⟨?_, b2.laid, by omega⟩⟩
            · rw [hR, sign_erM z, bind_s, lays1 hc2, bind_s, sign_erM z2, bind_s]
            · exact ((F1.less (by omega) (by omega) (by omega)).tr b1 (Nat.le_refl 0) (Nat.le_refl 0) (Nat.le_refl 0)).laid (Nat.zero_le _)
          · subst e1
            have hle := e4.le
            have F2 : FB p c x μ m2 ν v2 := F1.tr b1 (by omega) (by omega) (by omega)
            by_cases hz : v2 13 0 14 = 0
            · -- the text ends too early
              have i1 := e2.1
              have i10 := e2.2.2.2.2.2.2.2.2.2
              obtain ⟨m3, v3, f1, f2, f3, f4⟩ := P_fail (c := 1) n6_ (by decide) i1
              have z : v3 13 0 16 ≠ 0 := by rw [← f3.1.er]; exact f4
              have z2 : (st3 v3 48 0 (7 * c + 1) (v3 13 0 20)) 13 0 16 ≠ 0 := by rw [st3_K (by omega)]; exact z
              have hv3 : f_R_takesSign 41 v2 = some v3 := by
                unfold f_R_takesSign
                rw [isSign_end hz, bind_s, f2, bind_s]
                dsimp only
                rw [goes_er z, bind_s]
              have hFm : FB 0 0 0 m2 m3 v2 v3 := f3.2.1.fb
              have hbad : BAD s (nI p') m2 v3 B L := by
                refine ⟨?_, m3, ?_, f3.1, f4, ⟨hFm.1, hFm.2.1, hFm.2.2.1, fun _ _ _ _ => rfl, fun _ _ => rfl, fun _ _ => rfl, fun _ _ => rfl⟩⟩
                · show s_Script_readFor_21 s (nI p') m2 = _
                  unfold s_Script_readFor_21 f_Reader_seesEnd
                  have hpl := e2.pl
                  rw [if_neg (show ¬ (800 : Int32) ≤ nI p' from nI_ge (b := 800) (by omega) (by omega)), if_pos i10, if_pos ((P_end i1).mpr hz), bind_s, if_neg (by decide)]
                · rw [e2.2.2.2.2.1, if_neg (show ¬ nI (x + 1) ≤ 0 from nI_ge (a := 0) (by omega) (by omega)), f1]
              refine ⟨m1, st3 v3 48 0 (7 * c + 1) (v3 13 0 20), hcl, ?_, t, nI p', m2, by rw [nI_1]; exact g2, Or.inl ⟨?_, hbad.laid, by have := e2.pl; omega⟩⟩
              · rw [hR, hv3, bind_s, lays1 hc2, bind_s, sign_erM z2, bind_s]
              · have F0 : FB 0 0 0 μ m2 ν v2 := F2.less (by omega) (by omega) (by omega)
                refine FB.laid ⟨F0.1, fun j hj => by omega, fun z hz => by omega, fun K k1 k2 k3 => by rw [hFm.2.2.2.1 K k1 k2 k3]; exact F0.2.2.2.1 K k1 k2 k3, fun f hf => by rw [hFm.2.2.2.2.1 f hf]; exact F0.2.2.2.2.1 f hf, fun z hz => by omega, fun z hz => by omega⟩ (Nat.zero_le _)
            · have hs2 : f_R_isSign 41 v2 = some 1 := by
                rcases e6 with q | q
                · exact absurd q hz
                · exact q
              obtain ⟨m3, w1, w3, k1, k2, k3, k4, k5, k6, k7, k8, k9, k10, k11, k12, k13, k14⟩ := P_close e2 hs2 hz (by rw [b1.2.2.1 x (by omega)]; exact q2) (show p < p' by omega) (show c < c' by omega)
              have hpl := e2.pl
              have F3 : FB p c x μ m3 ν w3 := F2.tr k6 (Nat.le_refl _) (Nat.le_refl _) (Nat.le_refl x)
              have hrch : rch (rdS s) (t + 1) (nI p + 1, m1) (nI p' + 1, m3) := by
                rw [nI_1]
                exact g2.tr (rch.one k1)
              refine ⟨m1, w3, hcl, ?_, t + 1, nI p' + 1, m3, hrch, ?_⟩
              · rw [hR, k2, bind_s, k4, bind_s, k3, bind_s]
              · by_cases e : m3 6 0 4 = 0
                · refine Or.inr ⟨F3, N + 1, c', p' + 1, nI_1 p', k14 e, by omega, Or.inr (Or.inr ⟨h', c', p', rfl, ⟨?_, ?_, ?_, k12, k13, k10, k11⟩, ?_, BLK.nil⟩), by omega⟩
                  · rw [k7 p 0 (Or.inr (by omega)) (by omega), b1.2.1 p (by omega), q4, a6]; rfl
                  · rw [k8, b1.2.2.2.2.2.1 c (by omega), q5, a7]; rfl
                  · obtain ⟨r, r1, r2, r3⟩ := q3
                    refine ⟨r, r1, ?_, ?_⟩
                    · rw [k7 p 8 (Or.inr (by omega)) (by omega), b1.2.1 p (by omega)]; exact r2
                    · rw [k9 _ (by omega), b1.2.2.2.2.2.2 _ (by omega)]; exact r3
                  · exact e4.cong (fun j f j1 j2 _ => k7 j f (Or.inl (by omega)) (by omega)) (fun z _ _ => by rw [k8]) (fun z z1 z2 => k9 z (by omega))
                · exact Or.inl ⟨F3.less (by omega) (by omega) (by omega), BAD.err k5 e, by omega⟩
      · obtain ⟨m2, v1, v2, b1, b2, b3, b4⟩ := P_single (h := h) (show kd < 4 by omega) a5 a4 a6 a7
        refine ⟨m2, v2, by rw [rd_cmd hI hend hs (hC p m a1 a2), b1]; rfl, ?_, b4⟩
        rw [hR, if_neg (show ¬ nI kd = 4 by rcases (show kd = 0 ∨ kd = 1 ∨ kd = 2 ∨ kd = 3 by omega) with rfl | rfl | rfl | rfl <;> decide), R_single hc2 a7 (by omega), b2, bind_s, bind_s, b3, bind_s]
theorem P_level1 {FF : Int32 → Mem → Option Mem} {n : Nat} (hx : x + h = 2) (hE : ∀ y v, v 13 0 16 ≠ 0 → FF y v = some v)
    (hA : ∀ h', h = h' + 1 → ∀ c p μ ν, SI s (x + 1) c p μ ν B L E P C O → ∃ v, FF (nI (x + 1)) ν = some v ∧ OUTa s (x + 1) c p h' μ ν B L E P C O v) (hI : SI s x c p μ ν B L E P C O)
    (ih : ∀ (c' p' : Nat) (μ' ν' : Mem), c < c' → SI s x c' p' μ' ν' B L E P C O → ∃ v, it (fun (z : Mem) => s_R_readsCommands_0 FF (nI x) z) (n + 1) ν' = some v ∧ OUTa s x c' p' h μ' ν' B L E P C O v) :
    ∃ v, it (fun (z : Mem) => s_R_readsCommands_0 FF (nI x) z) (n + 2) ν = some v ∧ OUTa s x c p h μ ν B L E P C O v := by
  have hz : ν 13 0 16 = 0 := by rw [← hI.1.er]; exact hI.2.2.2.2.2.2.2.2.2
  have stop : (ν 13 0 14 = 0 ∨ f_R_isSign 41 ν = some 1) → ∃ v, it (fun (z : Mem) => s_R_readsCommands_0 FF (nI x) z) (n + 2) ν = some v ∧ OUTa s x c p h μ ν B L E P C O v := fun q => by
    refine ⟨ν, it_r ?_, 0, nI p, μ, rfl, Or.inr ⟨FB.rf, 0, c, p, rfl, hI, Nat.le_refl _, BLK.nil, by omega, q⟩⟩
    show s_R_readsCommands_0 FF (nI x) ν = _
    unfold s_R_readsCommands_0
    rw [if_pos hz]
    by_cases e : ν 13 0 14 = 0
    · rw [if_pos e]
    · rw [if_neg e, q.resolve_left e, bind_s, if_neg (by decide)]
  by_cases he : ν 13 0 14 = 0
  · exact stop (Or.inl he)
  · obtain ⟨r1, -, a2, a3⟩ := P_sign (c := 41) (Or.inr (Or.inr rfl)) hI.1
    rcases a3 with rfl | ⟨rfl, -⟩
    · obtain ⟨m1, v1, b1, b2, t, n', m, b3, b4⟩ := P_command hx hI he a2 hE hA
      have hstep : (fun (z : Mem) => s_R_readsCommands_0 FF (nI x) z) ν = some (.inl v1) := by
        show s_R_readsCommands_0 FF (nI x) ν = _
        unfold s_R_readsCommands_0
        rw [if_pos hz, if_neg he, show f_R_isSign 41 ν = some 0 from a2, bind_s, if_pos rfl, b2, bind_s]
      rcases b4 with ⟨d1, d2, d3⟩ | ⟨d1, N, c', p', e1, e2, e3, e4, e5⟩
      · refine ⟨v1, it_l hstep (it_r ?_), 1 + t, n', m, (rch.one b1).tr b3, Or.inl ⟨d1, d2, by omega⟩⟩
        show s_R_readsCommands_0 FF (nI x) v1 = _
        unfold s_R_readsCommands_0
        rw [if_neg d2.er]
      · subst e1
        obtain ⟨v, g1, t2, n2, m2, g2, g3⟩ := ih c' p' m v1 e3 e2
        have hle := e4.le
        refine ⟨v, it_l hstep g1, 1 + t + t2, n2, m2, ((rch.one b1).tr b3).tr g2, ?_⟩
        rcases g3 with ⟨k1, k2, k3⟩ | ⟨k1, N2, c2, p2, l1, l2, l3, l4, l5, l6⟩
        · exact Or.inl ⟨(d1.less (by omega) (by omega) (by omega)).tr k1 (Nat.le_refl 0) (Nat.le_refl 0) (Nat.le_refl 0), k2, by omega⟩
        · exact Or.inr ⟨d1.tr k1 hle.2 hle.1 (Nat.le_refl x), N + N2, c2, p2, l1, l2, by omega, (e4.cong (fun j f _ j2 _ => by rw [k1.2.1 j j2]) (fun z _ z2 => k1.2.2.2.2.2.1 z z2) (fun z _ z2 => k1.2.2.2.2.2.2 z z2)).app l4, by omega, l6⟩
    · exact stop (Or.inr a2)
/-- all commands of a level -/
theorem P_level {FF : Int32 → Mem → Option Mem} (hx : x + h = 2) (hE : ∀ y v, v 13 0 16 ≠ 0 → FF y v = some v)
    (hA : ∀ h', h = h' + 1 → ∀ c p μ ν, SI s (x + 1) c p μ ν B L E P C O → ∃ v, FF (nI (x + 1)) ν = some v ∧ OUTa s (x + 1) c p h' μ ν B L E P C O v) :
    ∀ (k c p : Nat) (μ ν : Mem), 30 ≤ c + k → SI s x c p μ ν B L E P C O → ∃ v, it (fun (z : Mem) => s_R_readsCommands_0 FF (nI x) z) (k + 2) ν = some v ∧ OUTa s x c p h μ ν B L E P C O v := by
  intro k
  induction k with
  | zero =>
    intro c p μ ν hk hI
    exact P_level1 (n := 0) hx hE hA hI (fun c' p' μ' ν' hc hI' => by have := hI'.2.2.2.2.2.2.1; omega)
  | succ k ih =>
    intro c p μ ν hk hI
    exact P_level1 (n := k + 1) hx hE hA hI (fun c' p' μ' ν' hc hI' => ih c' p' μ' ν' (by omega) hI')
theorem P_cmds : ∀ (h x c p : Nat) (μ ν : Mem), x + h = 2 → SI s x c p μ ν B L E P C O → ∃ v, f_R_rcs (h + 3) (nI x) ν = some v ∧ OUTa s x c p h μ ν B L E P C O v := by
  intro h
  induction h with
  | zero =>
    intro x c p μ ν hx hI
    obtain ⟨v, a1, a2⟩ := P_level (FF := f_R_rcs 2) hx (fun y v z => rcs_er z) (fun h' e => by omega) 30 c p μ ν (by omega) hI
    refine ⟨v, ?_, a2⟩
    show f_R_readsCommands (f_R_rcs 2) (nI x) ν = _
    unfold f_R_readsCommands
    rw [it_mono (show 30 + 2 ≤ LIM from by decide) a1, bind_s]
  | succ h ih =>
    intro x c p μ ν hx hI
    obtain ⟨v, a1, a2⟩ := P_level (FF := f_R_rcs (h + 3)) hx (fun y v z => rcs_er z) (fun h' e c p μ ν hI' => by
      obtain rfl : h = h' := by omega
      exact ih (x + 1) c p μ ν (by omega) hI') 30 c p μ ν (by omega) hI
    refine ⟨v, ?_, a2⟩
    show f_R_readsCommands (f_R_rcs (h + 3)) (nI x) ν = _
    unfold f_R_readsCommands
    rw [it_mono (show 30 + 2 ≤ LIM from by decide) a1, bind_s]
theorem sees_kind {w : Nat} (h : f_Reader_sees 6 w μ = some 1) : μ 6 0 1 = 1 := by
  unfold f_Reader_sees at h
  by_cases c1 : μ 6 0 4 = 0
  · rw [if_pos c1] at h
    by_cases c2 : μ 6 0 1 = 1
    · exact c2
    · rw [if_neg c2] at h
      exact absurd (Option.some.inj h) (by decide)
  · rw [if_neg c1] at h
    exact absurd (Option.some.inj h) (by decide)
/-- the whole script is read, on both sides: the class's reading; the model's up to what it keeps -/
theorem P_script (hX : TX μ ν B L) (hT : ST μ s (ν 40 0) E P C O) : ∃ m v1 v2 v3 x y, f_Script_readFor s μ = some (m 6 0 4, m) ∧ f_R_starts ν = some v1 ∧ f_R_rcs 5 0 (st3 v1 13 0 20 0) = some v2 ∧ ((if (v2 13 0 14) = 0 then (some (1)) else (some (0)) : Option (Int32))) = some x ∧ f_R_must x 1 v2 = some (y, v3) ∧ RS0 6 m v3 B L ∧
    FB 0 0 0 μ m ν v3 ∧ (m 6 0 4 = 0 → ∃ N c p, BLK m v3 N 2 0 c 0 p ∧ m 6 0 7 = nI p ∧ v3 13 0 20 = nI c ∧ c ≤ 30 ∧ p ≤ 60) := by
  have hX' : TX (st3 (st3 (st3 μ 6 0 7 0) 6 0 8 0) 6 0 10 0) ν B L := by
    unfold TX at hX ⊢
    simp only [st3_K (show 11 ≠ 6 by omega), st3_K (show 20 ≠ 6 by omega)]
    exact hX
  obtain ⟨m1, v1, a1, a2, a3, a4, a5⟩ := P_begin n6_ hX'
  have e7 : m1 6 0 7 = nI 0 := (a4.2.1 0 7 (by omega)).trans (by rw [st3_ua, ua_N (by omega), st3_ua, ua_N (by omega), st3_ua, ua_S]; rfl)
  have e8 : m1 6 0 8 = nI 0 := (a4.2.1 0 8 (by omega)).trans (by rw [st3_ua, ua_N (by omega), st3_ua, ua_S]; rfl)
  have e10 : m1 6 0 10 = nI 0 := (a4.2.1 0 10 (by omega)).trans (by rw [st3_ua, ua_S]; rfl)
  have hR : RS0 6 m1 (st3 v1 13 0 20 0) B L := a3.cong2 (fun _ _ _ => rfl) rfl rfl (fun f hf => by rw [st3_ua, ua_N (by omega)]) (by rw [st3_K (by omega)])
  have F0 : FB 0 0 0 μ m1 ν (st3 v1 13 0 20 0) := ⟨fun K k1 _ _ => by rw [a4.1 K k1, st3_K k1, st3_K k1, st3_K k1], fun j hj => by omega, fun z hz => by omega, fun K k1 _ _ => by rw [st3_K k1]; exact a4.2.2.1 K k1, fun f hf => by rw [st3_ua, ua_N (by omega)]; exact a4.2.2.2 f (by omega), fun z hz => by omega, fun z hz => by omega⟩
  have hI : SI s 0 0 0 m1 (st3 v1 13 0 20 0) B L E P C O := ⟨hR, F0.st hT, e7, e8, e10, by rw [st3_ua, ua_S]; rfl, by omega, by omega, by omega, a5⟩
  obtain ⟨v2, b1, t, n', m2, b2, b3⟩ := P_cmds 2 0 0 0 m1 (st3 v1 13 0 20 0) rfl hI
  have hrd : ∀ {m3 : Mem}, rdS s (n', m2) = some (.inr m3) → t ≤ 100 → (it (fun (q : Int32 × Mem) => s_Script_readFor_21 s q.1 q.2) LIM (0, m1)) = some m3 := fun {m3} q ht => it_mono (show t + 1 ≤ LIM from by show t + 1 ≤ 3000000; omega) (b2.it (m := 1) (it_r q))
  have fin : ∀ {m3 m4 : Mem}, rdS s (n', m2) = some (.inr m3) → t ≤ 100 → (if m3 6 0 10 ≤ 0 then some m3 else f_Reader_fail 6 1 m3) = some m4 → f_Script_readFor s μ = some (m4 6 0 4, m4) := fun {m3 m4} q ht q2 => by
    unfold f_Script_readFor
    rw [nm_9, nm_9, nm_9, a1, bind_s, hrd q ht, bind_s]
    by_cases c : m3 6 0 10 ≤ 0
    · rw [if_pos c] at q2 ⊢
      cases q2
      rfl
    · rw [if_neg c] at q2 ⊢
      rw [q2, bind_s]
  rcases b3 with ⟨d1, ⟨d2, m4, d3, d4, d5, d6⟩, d7⟩ | ⟨d1, N, c', p', e1, e2, e3, e4, e5, e6⟩
  · have z : v2 13 0 16 ≠ 0 := by rw [← d4.er]; exact d5
    have F1 : FB 0 0 0 μ m2 ν v2 := F0.tr d1 (Nat.le_refl 0) (Nat.le_refl 0) (Nat.le_refl 0)
    have F2 : FB 0 0 0 μ m4 ν v2 := F1.tr d6 (Nat.le_refl 0) (Nat.le_refl 0) (Nat.le_refl 0)
    by_cases hz : v2 13 0 14 = 0
    · exact ⟨m4, v1, v2, v2, _, 0, fin d2 (by omega) d3, a2, b1, if_pos hz, must_er z, d4, F2, fun q => absurd q d5⟩
    · exact ⟨m4, v1, v2, v2, _, 0, fin d2 (by omega) d3, a2, b1, if_neg hz, must_er z, d4, F2, fun q => absurd q d5⟩
  · subst e1
    have hpl := e2.pl
    obtain ⟨i1, i2, i3, i4, i5, i6, i7, i8, i9, i10⟩ := e2
    have z : v2 13 0 16 = 0 := by rw [← i1.er]; exact i10
    have F1 : FB 0 0 0 μ m2 ν v2 := F0.tr d1 (Nat.le_refl 0) (Nat.le_refl 0) (Nat.le_refl 0)
    have hd : m2 6 0 10 ≤ 0 := by rw [i5]; decide
    by_cases hz : v2 13 0 14 = 0
    · have hst : rdS s (nI p', m2) = some (.inr m2) := by
        show s_Script_readFor_21 s (nI p') m2 = _
        unfold s_Script_readFor_21 f_Reader_seesEnd
        rw [if_neg (show ¬ (800 : Int32) ≤ nI p' from nI_ge (b := 800) (by omega) (by omega)), if_pos i10, if_pos ((P_end i1).mpr hz), bind_s, if_neg (by decide)]
      exact ⟨m2, v1, v2, v2, _, 1, fin hst (by omega) (if_pos hd), a2, b1, if_pos hz, must_ok z, i1, F1, fun _ => ⟨N, c', p', e4, i3, i6, i7, hpl⟩⟩
    · -- a bracket that closes nothing
      have hs : f_R_isSign 41 v2 = some 1 := e6.resolve_left hz
      obtain ⟨r1, q1, q2, -⟩ := P_sign (c := 41) (Or.inr (Or.inr rfl)) i1
      have er1 : r1 = 1 := by
        rw [show f_R_isSign (nI 41) v2 = some 1 from hs] at q2
        exact (Option.some.inj q2).symm
      subst er1
      have hk : m2 6 0 1 = 41 := by
        unfold f_Reader_seesSign at q1
        rw [if_pos i10] at q1
        by_cases c : m2 6 0 1 = nI 41
        · exact c
        · rw [if_neg c] at q1
          exact absurd (Option.some.inj q1) (by decide)
      obtain ⟨m3, v3, f1, f2, f3, f4⟩ := P_fail (c := 1) n6_ (by decide) i1
      have hrc : f_Script_readCommand s m2 = some m3 := by
        rcases P_which (s := s) i1 with ⟨-, w2⟩ | ⟨kd, -, w2, -, -⟩
        · rw [w2, f1]
        · exact absurd ((sees_kind w2).symm.trans hk) (by decide)
      have hst : rdS s (nI p', m2) = some (.inl (nI p' + 1, m3)) := by
        show s_Script_readFor_21 s (nI p') m2 = _
        unfold s_Script_readFor_21 f_Reader_seesEnd
        rw [if_neg (show ¬ (800 : Int32) ≤ nI p' from nI_ge (b := 800) (by omega) (by omega)), if_pos i10, if_neg (fun z => hz ((P_end i1).mp z)), bind_s, if_pos rfl, if_pos hd, hrc, bind_s]
      have hB : BAD s (nI p' + 1) m3 v3 B L := BAD.err f3.1 f4
      have hd3 : m3 6 0 10 ≤ 0 := by rw [f3.2.1.2.1 0 10 (by omega)]; exact hd
      have hit : (it (fun (q : Int32 × Mem) => s_Script_readFor_21 s q.1 q.2) LIM (0, m1)) = some m3 := it_mono (show t + 1 + 1 ≤ LIM from by show t + 1 + 1 ≤ 3000000; omega) ((b2.tr (rch.one hst)).it (m := 1) (it_r hB.1))
      refine ⟨m3, v1, v2, v3, _, 0, ?_, a2, b1, if_neg hz, f2, f3.1, F1.tr f3.2.1.fb (Nat.le_refl 0) (Nat.le_refl 0) (Nat.le_refl 0), fun q => absurd q f4⟩
      unfold f_Script_readFor
      rw [nm_9, nm_9, nm_9, a1, bind_s, hit, bind_s, if_pos hd3]
end ReadAll
