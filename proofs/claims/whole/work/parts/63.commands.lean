/-! All commands are read. -/
def OUTa (s x c p h : Nat) (μ ν : Mem) (B : Nat → Nat) (L E P C O : Nat) (v : Mem) : Prop := ∃ t n' m, rch (rdS s) t (nI p, μ) (n', m) ∧ ((FB 0 0 0 μ m ν v ∧ BAD s n' m v B L ∧ t + p ≤ 62) ∨ (FB p c x μ m ν v ∧ ∃ N c' p', n' = nI p' ∧ SI s x c' p' m v B L E P C O ∧ c ≤ c' ∧ BLK m v N h c c' p p' ∧ t + p = p' ∧ (v 13 0 14 = 0 ∨ f_R_isSign 41 v = some 1)))
section Commands
variable {s x c p h : Nat} {μ ν m v : Mem} {B : Nat → Nat} {L E P C O : Nat}
theorem BLK.nil : ∀ {N h k p : Nat}, BLK μ ν N h k k p p
  | 0, _, _, _ => ⟨rfl, rfl⟩
  | _ + 1, _, _, _ => Or.inl ⟨rfl, rfl⟩
theorem BAD.laid {n : Int32} {z : Nat} {y : Int32} (h : BAD s n m v B L) : BAD s n m (st3 v 48 0 z y) B L := by
  obtain ⟨a, m', b1, b2, b3, b4⟩ := h
  exact ⟨a, m', b1, b2.cong2 (fun _ _ _ => rfl) rfl rfl (fun f _ => by rw [st3_K (by omega)]) (by rw [st3_K (by omega)]), b3, b4.1, b4.2.1, b4.2.2.1, fun _ _ _ _ => rfl, fun _ _ => rfl, fun _ _ => rfl, fun _ _ => rfl⟩
theorem BAD.er {n : Int32} (h : BAD s n m v B L) : v 13 0 16 ≠ 0 := by
  obtain ⟨-, m', -, b2, b3, -⟩ := h
  rw [← b2.er]
  exact b3
theorem FB.laid {p' c' x' z : Nat} {y : Int32} (h : FB p' c' x' μ m ν v) (hz : 7 * c' ≤ z) : FB p' c' x' μ m ν (st3 v 48 0 z y) := ⟨h.1, h.2.1, h.2.2.1, fun K k1 k2 k3 => by rw [st3_K k3]; exact h.2.2.2.1 K k1 k2 k3, fun f hf => by rw [st3_K (by omega)]; exact h.2.2.2.2.1 f hf, fun w hw => by rw [st3_K (by omega)]; exact h.2.2.2.2.2.1 w hw, fun w hw => by rw [st3_ua, ua_N (by omega)]; exact h.2.2.2.2.2.2 w hw⟩
/-- the class's step where a command is read -/
theorem rd_cmd {r : Option Mem} (hI : SI s x c p μ ν B L E P C O) (he : ν 13 0 14 ≠ 0) (hs : f_R_isSign 41 ν = some 0) (hr : f_Script_readCommand s μ = r) : rdS s (nI p, μ) = r.bind (fun m => some (.inl (nI p + 1, m))) := by
  have hp := hI.pl
  obtain ⟨i1, i2, i3, i4, i5, i6, i7, i8, i9, i10⟩ := hI
  obtain ⟨r1, a1, a2, -⟩ := P_sign (c := 41) (Or.inr (Or.inr rfl)) i1
  have e1 : r1 = 0 := by
    rw [show f_R_isSign (nI 41) ν = some 0 from hs] at a2
    exact (Option.some.inj a2).symm
  subst e1
  show s_Script_readFor_21 s (nI p) μ = _
  unfold s_Script_readFor_21 f_Reader_seesEnd
  rw [if_neg (show ¬ (800 : Int32) ≤ nI p from nI_ge (b := 800) (by omega) (by omega)), if_pos i10, if_neg (fun z => he ((P_end i1).mp z)), bind_s, if_pos rfl, show f_Reader_seesSign 6 41 μ = some 0 from a1, bind_s, if_pos rfl, hr]
  split <;> rfl
/-- a bracket is closed -/
theorem P_close {c' p' : Nat} (hI : SI s (x + 1) c' p' m v B L E P C O) (hs : f_R_isSign 41 v = some 1) (he : v 13 0 14 ≠ 0) (h22 : m 22 0 x = nI p) (hpp : p < p') (hcc : c < c') :
    ∃ m3 v1 v3, rdS s (nI p', m) = some (.inl (nI p' + 1, m3)) ∧ f_R_takesSign 41 v = some v1 ∧ f_R_takesSign 59 (st3 v1 48 0 (7 * c + 1) (v1 13 0 20)) = some v3 ∧ f_R_lays (nI c) 1 (v1 13 0 20) v1 = some (st3 v1 48 0 (7 * c + 1) (v1 13 0 20)) ∧ RS0 6 m3 v3 B L ∧ FB p c x m m3 v v3 ∧
      (∀ j f, (j ≠ p ∨ f ≠ 9) → j ≠ p' → m3 10 j f = m 10 j f) ∧ v3 47 = v 47 ∧ (∀ z, z ≠ 7 * c + 1 → v3 48 0 z = v 48 0 z) ∧ m3 10 p' 0 = 5 ∧ m3 10 p' 9 = nI p ∧ m3 10 p 9 = nI p' ∧ v3 48 0 (7 * c + 1) = nI c' ∧ (m3 6 0 4 = 0 → SI s x c' (p' + 1) m3 v3 B L E P C O) := by
  have hp := hI.pl
  obtain ⟨i1, i2, i3, i4, i5, i6, i7, i8, i9, i10⟩ := hI
  have hc : c < 30 := by omega
  have hp9 : p' < 60 := by omega
  obtain ⟨r1, a1, a2, -⟩ := P_sign (c := 41) (Or.inr (Or.inr rfl)) i1
  have e1 : r1 = 1 := by
    rw [show f_R_isSign (nI 41) v = some 1 from hs] at a2
    exact (Option.some.inj a2).symm
  subst e1
  obtain ⟨m1, v1, b1, b2, b3⟩ := P_takeSign (c := 41) n6_ (Or.inr (Or.inr rfl)) i1
  have hR1 : RS0 6 m1 (st3 v1 48 0 (7 * c + 1) (v1 13 0 20)) B L := b3.1.cong2 (fun _ _ _ => rfl) rfl rfl (fun f _ => by rw [st3_K (by omega)]) (by rw [st3_K (by omega)])
  obtain ⟨m2, v3, d1, d2, d3⟩ := P_takeSign (c := 59) n6_ (Or.inl rfl) hR1
  have f6 : ∀ f, 5 < f → m2 6 0 f = m 6 0 f := fun f hf => (d3.2.1.2.1 0 f (by omega)).trans (b3.2.1.2.1 0 f (by omega))
  have fK : ∀ K, K ≠ 6 → m2 K = m K := fun K hK => (d3.2.1.1 K hK).trans (b3.2.1.1 K hK)
  have e20 : v1 13 0 20 = nI c' := (b3.2.1.2.2.2 20 (by omega)).trans i6
  have gK : ∀ K, K ≠ 13 → K ≠ 48 → v3 K = v K := fun K k1 k2 => (d3.2.1.2.2.1 K k1).trans ((st3_K k2).trans (b3.2.1.2.2.1 K k1))
  have g13 : ∀ f, f < 12 ∨ 17 < f → v3 13 0 f = v 13 0 f := fun f hf => (d3.2.1.2.2.2 f hf).trans ((congrFun (congrFun (st3_K (by omega)) 0) f).trans (b3.2.1.2.2.2 f hf))
  have g48 : ∀ z, v3 48 0 z = if z = 7 * c + 1 then nI c' else v 48 0 z := fun z => by
    rw [d3.2.1.2.2.1 48 (by omega), st3_ua, e20]
    unfold ua
    split
    · rfl
    · rw [b3.2.1.2.2.1 48 (by omega)]
  have hcl : f_Script_closeRepeat m = some (st3 (st3 (st3 (st3 (st3 m2 6 0 10 (nI x)) 10 p' 0 5) 6 0 7 (nI (p' + 1))) 10 p' 9 (nI p)) 10 p 9 (nI p')) := by
    unfold f_Script_closeRepeat
    rw [show f_Reader_takeSign 6 41 m = _ from b1, bind_s, show f_Reader_takeSign 6 59 m1 = _ from d1, bind_s, f6 10 (by omega), i5, if_neg (show ¬ nI (x + 1) ≤ 0 from nI_ge (a := 0) (by omega) (by omega)), nm_9, show nI (x + 1) - 1 = nI x from nI_sub (a := x + 1) (b := 1) (by omega), show (st3 m2 6 0 10 (nI x)) 6 0 10 = nI x by rw [st3_ua, ua_S], chk_of (inb_of (by omega) (by omega)), nm_9, nI_clamp (by omega), st3_K (show 22 ≠ 6 by omega), fK 22 (by omega), h22]
    unfold f_Script_addStep
    rw [show (st3 m2 6 0 10 (nI x)) 6 0 7 = nI p' by rw [st3_ua, ua_N (by omega), f6 7 (by omega), i3], if_neg (show ¬ (60 : Int32) ≤ nI p' from nI_ge (b := 60) hp9 (by omega)), bind_s, chk_of (inb_of hp9 (by omega)), nm_9, nm_9, chk_of (inb_of hp9 (by omega)), bind_s, nI_clamp (by omega), nI_1]
    dsimp only
    rw [chk_of (decide_eq_true hp9), nm_9]
    unfold f_Script_stepAt
    rw [if_neg (nI_pos (by omega)), if_neg (show ¬ (60 : Int32) ≤ nI p from nI_ge (b := 60) (by omega) (by omega)), chk_of (inb_of (by omega) (by omega)), bind_s, nI_clamp (by omega), chk_of (decide_eq_true (by omega)), nm_9, st3_K (show 6 ≠ 10 by omega), st3_ua, ua_S, show nI (p' + 1) - 1 = nI p' from nI_sub (a := p' + 1) (b := 1) (by omega)]
  refine ⟨st3 (st3 (st3 (st3 (st3 m2 6 0 10 (nI x)) 10 p' 0 5) 6 0 7 (nI (p' + 1))) 10 p' 9 (nI p)) 10 p 9 (nI p'), v1, v3, ?_, b2, d2, lays1 hc, ?_, ⟨fun K k1 k2 k3 => ?_, fun j hj => ?_, fun z hz => ?_, fun K k1 k2 k3 => gK K k1 k3, fun f hf => g13 f (by omega), fun z _ => by rw [gK 47 (by omega) (by omega)], fun z hz => by rw [g48, if_neg (by omega)]⟩, fun j f hj hj2 => ?_, gK 47 (by omega) (by omega), fun z hz => by rw [g48, if_neg hz], ?_, ?_, ?_, by rw [g48, if_pos rfl], fun z => ?_⟩
  · show s_Script_readFor_21 s (nI p') m = _
    unfold s_Script_readFor_21 f_Reader_seesEnd
    rw [if_neg (show ¬ (800 : Int32) ≤ nI p' from nI_ge (b := 800) (by omega) (by omega)), if_pos i10, if_neg (fun z => he ((P_end i1).mp z)), bind_s, if_pos rfl, i5, if_neg (show ¬ nI (x + 1) ≤ 0 from nI_ge (a := 0) (by omega) (by omega)), show f_Reader_seesSign 6 41 m = some 1 from a1, bind_s, if_neg (by decide), hcl, bind_s]
  · exact d3.1.cong2 (fun f f1 f2 => by rw [st3_K (by omega), st3_K (by omega), st3_ua, ua_N (by omega), st3_K (by omega), st3_ua, ua_N (by omega)]) (by rw [st3_K (by omega), st3_K (by omega), st3_K (by omega), st3_K (by omega), st3_K (by omega)]) (by rw [st3_K (by omega), st3_K (by omega), st3_K (by omega), st3_K (by omega), st3_K (by omega)]) (fun _ _ => rfl) rfl
  · rw [st3_K k2, st3_K k2, st3_K k1, st3_K k2, st3_K k1, fK K k1]
  · rw [st3_J (by omega), st3_J (by omega), st3_K (by omega), st3_J (by omega), st3_K (by omega), fK 10 (by omega)]
  · rw [st3_K (by omega), st3_K (by omega), st3_K (by omega), st3_K (by omega), st3_K (by omega), fK 22 (by omega)]
  · have q : ∀ (w : Mem) (y : Int32), st3 w 10 p 9 y 10 j f = w 10 j f := fun w y => by
      by_cases e : j = p
      · subst e; rw [st3_ua, ua_N (by omega)]
      · rw [st3_J e]
    rw [q, st3_J hj2, st3_K (by omega), st3_J hj2, st3_K (by omega), fK 10 (by omega)]
  · rw [st3_J (by omega), st3_ua, ua_N (by omega), st3_K (by omega), st3_ua, ua_S]
  · rw [st3_J (by omega), st3_ua, ua_S]
  · rw [st3_ua, ua_S]
  · refine ⟨?_, ?_, ?_, ?_, ?_, by rw [g13 20 (by omega)]; exact i6, i7, by omega, by omega, z⟩
    · exact d3.1.cong2 (fun f f1 f2 => by rw [st3_K (by omega), st3_K (by omega), st3_ua, ua_N (by omega), st3_K (by omega), st3_ua, ua_N (by omega)]) (by rw [st3_K (by omega), st3_K (by omega), st3_K (by omega), st3_K (by omega), st3_K (by omega)]) (by rw [st3_K (by omega), st3_K (by omega), st3_K (by omega), st3_K (by omega), st3_K (by omega)]) (fun _ _ => rfl) rfl
    · rw [gK 40 (by omega) (by omega)]
      exact i2.mem (fun K q => by
        have k1 : K ≠ 6 ∧ K ≠ 10 := by unfold setK at q; omega
        rw [st3_K k1.2, st3_K k1.2, st3_K k1.1, st3_K k1.2, st3_K k1.1, fK K k1.1])
    · rw [st3_K (by omega), st3_K (by omega), st3_ua, ua_S]
    · rw [st3_K (by omega), st3_K (by omega), st3_ua, ua_N (by omega), st3_K (by omega), st3_ua, ua_N (by omega), f6 8 (by omega)]; exact i4
    · rw [st3_K (by omega), st3_K (by omega), st3_ua, ua_N (by omega), st3_K (by omega), st3_ua, ua_S]
end Commands
