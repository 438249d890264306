/-! One command is read. -/
def SI (s x c p : Nat) (μ ν : Mem) (B : Nat → Nat) (L E P C O : Nat) : Prop := RS0 6 μ ν B L ∧ ST μ s (ν 40 0) E P C O ∧ μ 6 0 7 = nI p ∧ μ 6 0 8 = nI c ∧ μ 6 0 10 = nI x ∧ ν 13 0 20 = nI c ∧ c ≤ 30 ∧ p + x ≤ 2 * c ∧ x ≤ 2 ∧ μ 6 0 4 = 0
def rdS (s : Nat) : Int32 × Mem → Option ((Int32 × Mem) ⊕ Mem) := fun q => s_Script_readFor_21 s q.1 q.2
/-- the class's loop ends here, the text has an error -/
def BAD (s : Nat) (n : Int32) (m v : Mem) (B : Nat → Nat) (L : Nat) : Prop := rdS s (n, m) = some (.inr m) ∧ ∃ m', (if m 6 0 10 ≤ 0 then some m else f_Reader_fail 6 1 m) = some m' ∧ RS0 6 m' v B L ∧ m' 6 0 4 ≠ 0 ∧ FB 0 0 0 m m' v v
def OUTc (s x c p h : Nat) (μ ν : Mem) (B : Nat → Nat) (L E P C O : Nat) (n : Int32) (m1 v : Mem) : Prop := ∃ t n' m, rch (rdS s) t (n, m1) (n', m) ∧ ((FB 0 0 0 μ m ν v ∧ BAD s n' m v B L ∧ t + p + 1 ≤ 62) ∨ (FB p c x μ m ν v ∧ ∃ N c' p', n' = nI p' ∧ SI s x c' p' m v B L E P C O ∧ c < c' ∧ BLK m v N h c c' p p' ∧ t + p + 1 = p'))
section Command
variable {s x c p h : Nat} {μ ν m v m2 v2 : Mem} {B : Nat → Nat} {L E P C O : Nat} {n : Int32}
theorem BAD.err (h : RS0 6 m v B L) (e : m 6 0 4 ≠ 0) : BAD s n m v B L := by
  refine ⟨?_, m, ?_, h, e, FB.rf⟩
  · show s_Script_readFor_21 s n m = _
    unfold s_Script_readFor_21
    by_cases c : (800 : Int32) ≤ n
    · rw [if_pos c]
    · rw [if_neg c, if_neg e]
  · split
    · rfl
    · exact fail_er e
theorem OUTc.bad (hF : FB 0 0 0 μ m ν v) (hR : RS0 6 m v B L) (e : m 6 0 4 ≠ 0) (hp : p ≤ 60) : OUTc s x c p h μ ν B L E P C O n m v := ⟨0, n, m, rfl, Or.inl ⟨hF, BAD.err hR e, by omega⟩⟩
theorem SI.pl (hI : SI s x c p μ ν B L E P C O) : p ≤ 60 := by
  obtain ⟨-, -, -, -, -, -, h1, h2, -⟩ := hI
  omega
/-- a single command is read: the words of the step p and the command c -/
theorem OUTc.single {S : List (Nat × Nat)} (h0 : FB p c x μ m ν v) (hI : SI s x (c + 1) (p + 1) m v B L E P C O) (hR : RDX p c S m m2 v v2 B L) (hs : m2 6 0 4 = 0 → SIM m2 v2 p c) : OUTc s x c p h μ ν B L E P C O (nI p + 1) m2 v2 := by
  have hF : FB p c x μ m2 ν v2 := h0.tr (hR.2.1.fb (Nat.le_refl _) (Nat.le_refl _)) (Nat.le_refl _) (Nat.le_refl _) (Nat.le_refl x)
  have hp := hI.pl
  by_cases e : m2 6 0 4 = 0
  · obtain ⟨-, i2, i3, i4, i5, i6, i7, i8, i9, -⟩ := hI
    refine ⟨0, _, m2, rfl, Or.inr ⟨hF, 1, c + 1, p + 1, nI_1 p, ⟨hR.1, hR.st i2, ?_, ?_, ?_, ?_, i7, i8, i9, e⟩, by omega, Or.inr (Or.inl ⟨hs e, rfl, rfl⟩), by omega⟩⟩
    · rw [hR.2.1.2.1 7 (by omega)]; exact i3
    · rw [hR.2.1.2.1 8 (by omega)]; exact i4
    · rw [hR.2.1.2.1 10 (by omega)]; exact i5
    · rw [hR.2.1.2.2.2.2.1 20 (by omega)]; exact i6
  · exact OUTc.bad (hF.less (by omega) (by omega) (by omega)) hR.1 e (by omega)
/-- the word of a command is taken, on both sides -/
theorem P_add {w : Nat} {act : Int32} (hI : SI s x c p μ ν B L E P C O) (hw : f_Reader_sees 6 w μ = some 1) (hc : c < 30) :
    ∃ m v, f_Script_addCommand w act μ = some (p, m) ∧ p < 60 ∧ f_R_reads (st3 (st3 ν 47 0 c act) 13 0 20 ((st3 ν 47 0 c act) 13 0 20 + 1)) = some v ∧ SI s x (c + 1) (p + 1) m v B L E P C O ∧ FB p c x μ m ν v ∧ m 10 p 0 = act ∧ v 47 0 c = act := by
  obtain ⟨i1, i2, i3, i4, i5, i6, i7, i8, i9, i10⟩ := hI
  have hp : p < 60 := by omega
  have hR1 : RS0 6 μ (st3 (st3 ν 47 0 c act) 13 0 20 ((st3 ν 47 0 c act) 13 0 20 + 1)) B L := i1.cong2 (fun _ _ _ => rfl) rfl rfl (fun f hf => by rw [st3_ua, ua_N (by omega), st3_K (by omega)]) (by rw [st3_K (by omega), st3_K (by omega)])
  obtain ⟨m, v, a1, a2, a3, a4⟩ := P_go n6_ hR1
  have e7 : m 6 0 7 = nI p := (a3.2.1.2.1 0 7 (by omega)).trans i3
  have e8 : m 6 0 8 = nI c := (a3.2.1.2.1 0 8 (by omega)).trans i4
  have e10 : m 6 0 10 = nI x := (a3.2.1.2.1 0 10 (by omega)).trans i5
  refine ⟨st3 (st3 (st3 m 6 0 8 (nI (c + 1))) 10 p 0 act) 6 0 7 (nI (p + 1)), v, ?_, hp, a2, ⟨?_, ?_, ?_, ?_, ?_, ?_, by omega, by omega, i9, ?_⟩, ⟨fun K k1 k2 k3 => ?_, fun j hj => ?_, fun z hz => ?_, fun K k1 k2 k3 => ?_, fun f hf => ?_, fun z hz => ?_, fun z hz => ?_⟩, ?_, ?_⟩
  · unfold f_Script_addCommand f_Reader_takeCounted
    rw [hw, bind_s, if_neg (by decide), i4, if_pos (show nI c < (30 : Int32) from nI_lt (b := 30) hc (by omega)), a1, bind_s, bind_s, nm_9, e8, nI_1]
    unfold f_Script_addStep
    rw [st3_ua, ua_N (by omega), e7, if_neg (show ¬ (60 : Int32) ≤ nI p from nI_ge (b := 60) hp (by omega)), bind_s, chk_of (inb_of hp (by omega)), nm_9, nm_9, chk_of (inb_of hp (by omega)), bind_s, nI_clamp (by omega), chk_of (decide_eq_true hp), nI_1]
  · exact a3.1.cong2 (fun f f1 f2 => by rw [st3_ua, ua_N (by omega), st3_K (by omega), st3_ua, ua_N (by omega)]) (by rw [st3_K (by omega), st3_K (by omega), st3_K (by omega)]) (by rw [st3_K (by omega), st3_K (by omega), st3_K (by omega)]) (fun _ _ => rfl) rfl
  · rw [a3.2.1.2.2.1 40 (by omega), st3_K (by omega), st3_K (by omega)]
    exact i2.mem (fun K q => by
      have k1 : K ≠ 6 ∧ K ≠ 10 := by unfold setK at q; omega
      rw [st3_K k1.1, st3_K k1.2, st3_K k1.1, a3.2.1.1 K k1.1])
  · rw [st3_ua, ua_S]
  · rw [st3_ua, ua_N (by omega), st3_K (by omega), st3_ua, ua_S]
  · rw [st3_ua, ua_N (by omega), st3_K (by omega), st3_ua, ua_N (by omega), e10]
  · rw [a3.2.1.2.2.2 20 (by omega), st3_ua, ua_S, st3_K (by omega), i6, nI_1]
  · rw [st3_ua, ua_N (by omega), st3_K (by omega), st3_ua, ua_N (by omega), a4]
    exact i10
  · rw [st3_K k1, st3_K k2, st3_K k1, a3.2.1.1 K k1]
  · rw [st3_K (by omega), st3_J (by omega), st3_K (by omega), a3.2.1.1 10 (by omega)]
  · rw [st3_K (by omega), st3_K (by omega), st3_K (by omega), a3.2.1.1 22 (by omega)]
  · rw [a3.2.1.2.2.1 K k1, st3_K k1, st3_K k2]
  · rw [a3.2.1.2.2.2 f (by omega), st3_ua, ua_N (by omega), st3_K (by omega)]
  · rw [a3.2.1.2.2.1 47 (by omega), st3_K (by omega), st3_ua, ua_N (by omega)]
  · rw [a3.2.1.2.2.1 48 (by omega), st3_K (by omega), st3_K (by omega)]
  · rw [st3_K (by omega), st3_ua, ua_S]
  · rw [a3.2.1.2.2.1 47 (by omega), st3_K (by omega), st3_ua, ua_S]
/-- a command too many -/
theorem E_add {w : Nat} {act : Int32} (hI : SI s x c p μ ν B L E P C O) (hw : f_Reader_sees 6 w μ = some 1) (hc : c = 30) :
    ∃ i m v, f_Script_addCommand w act μ = some (i, m) ∧ i < 60 ∧ f_R_must 0 4 ν = some (0, v) ∧ RS0 6 m v B L ∧ m 6 0 4 ≠ 0 ∧ ST m s (v 40 0) E P C O ∧ FB 0 0 0 μ m ν v := by
  have hp := hI.pl
  obtain ⟨i1, i2, i3, i4, i5, i6, i7, i8, i9, i10⟩ := hI
  obtain ⟨m, v, a1, a2, a3, a4⟩ := P_fail (c := 4) n6_ (by decide) i1
  have e7 : m 6 0 7 = nI p := (a3.2.1.2.1 0 7 (by omega)).trans i3
  have key : ∀ q, q < 60 → (if (60 : Int32) ≤ nI p then (some (59)) else (some (nI p)) : Option (Int32)) = some (nI q) → ∃ i m' v', f_Script_addCommand w act μ = some (i, m') ∧ i < 60 ∧ f_R_must 0 4 ν = some (0, v') ∧ RS0 6 m' v' B L ∧ m' 6 0 4 ≠ 0 ∧ ST m' s (v' 40 0) E P C O ∧ FB 0 0 0 μ m' ν v' := fun q hq hb => by
    have hF : FB 0 0 0 μ (st3 (st3 (st3 m 6 0 8 (m 6 0 8 + 1)) 10 q 0 act) 6 0 7 (nI q + 1)) ν v :=
      ⟨fun K k1 k2 k3 => by rw [st3_K k1, st3_K k2, st3_K k1, a3.2.1.1 K k1], fun j hj => by omega, fun z hz => by omega, fun K k1 _ _ => a3.2.1.2.2.1 K k1, fun f hf => a3.2.1.2.2.2 f (by omega), fun z hz => by omega, fun z hz => by omega⟩
    refine ⟨q, _, v, ?_, hq, a2, ?_, ?_, hF.st i2, hF⟩
    · unfold f_Script_addCommand f_Reader_takeCounted
      rw [hw, bind_s, if_neg (by decide), i4, if_neg (show ¬ nI c < (30 : Int32) from nI_nlt (b := 30) (by omega) (by omega)), a1, bind_s, bind_s, nm_9]
      unfold f_Script_addStep
      rw [show (st3 m 6 0 8 (m 6 0 8 + 1)) 6 0 7 = nI p by rw [st3_ua, ua_N (by omega), e7], hb, bind_s, chk_of (inb_of hq (by omega)), nm_9, nm_9, chk_of (inb_of hq (by omega)), bind_s, nI_clamp (by omega), chk_of (decide_eq_true hq)]
    · exact a3.1.cong2 (fun f f1 f2 => by rw [st3_ua, ua_N (by omega), st3_K (by omega), st3_ua, ua_N (by omega)]) (by rw [st3_K (by omega), st3_K (by omega), st3_K (by omega)]) (by rw [st3_K (by omega), st3_K (by omega), st3_K (by omega)]) (fun _ _ => rfl) rfl
    · rw [st3_ua, ua_N (by omega), st3_K (by omega), st3_ua, ua_N (by omega)]
      exact a4
  by_cases e : p = 60
  · subst e
    exact key 59 (by omega) rfl
  · exact key p (by omega) (if_neg (show ¬ nI 60 ≤ nI p from nI_ge (by omega) (by omega)))
/-- the model's command, where there is one more -/
theorem R_more {FF : Int32 → Mem → Option Mem} {kd : Nat} (hI : SI s x c p μ ν B L E P C O) (hk : kd < 5) (hh : f_R_commandHere ν = some (nI kd)) (hc : c < 30) (hr : f_R_reads (st3 (st3 ν 47 0 c (nI kd)) 13 0 20 ((st3 ν 47 0 c (nI kd)) 13 0 20 + 1)) = some v) :
    f_R_readsCommand FF (nI x) ν = ((if nI kd = 4 then (((f_R_readsRepeat FF (nI c) (nI x) v)).bind (fun r14 => some (r14))) else (((f_R_readsSingle (nI c) v)).bind (fun r13 => some (r13))) : Option (Mem))).bind (fun q11 => ((f_R_takesSign 59 q11)).bind (fun r12 => some r12)) := by
  have he := hI.1.er
  obtain ⟨i1, i2, i3, i4, i5, i6, i7, i8, i9, i10⟩ := hI
  have z : ν 13 0 16 = 0 := by rw [← he]; exact i10
  unfold f_R_readsCommand
  rw [hh, bind_s, if_neg (ne_m1 (by omega)), bind_s, must_ok z, bind_s]
  dsimp only
  rw [if_neg (show ¬ (1 : Int32) = 0 by decide), if_neg (show ¬ (30 : Int32) ≤ ν 13 0 20 by rw [i6]; exact nI_ge (b := 30) hc (by omega)), bind_s, must_ok z, bind_s]
  dsimp only
  rw [if_neg (show ¬ (1 : Int32) = 0 by decide), i6, nm_9, chk_of (inb_of hc (by omega)), nm_9, nm_9, nI_clamp (by omega), hr, bind_s]
theorem R_none {FF : Int32 → Mem → Option Mem} (hh : f_R_commandHere ν = some (-1)) (hm : f_R_must 0 1 ν = some (0, v)) : f_R_readsCommand FF (nI x) ν = some v := by
  unfold f_R_readsCommand
  rw [hh, bind_s, if_pos rfl, bind_s, hm, bind_s]
  dsimp only
  rw [if_pos rfl]
theorem R_full {FF : Int32 → Mem → Option Mem} {kd : Nat} (hI : SI s x c p μ ν B L E P C O) (hk : kd < 5) (hh : f_R_commandHere ν = some (nI kd)) (hc : c = 30) (hm : f_R_must 0 4 ν = some (0, v)) : f_R_readsCommand FF (nI x) ν = some v := by
  have he := hI.1.er
  obtain ⟨i1, i2, i3, i4, i5, i6, i7, i8, i9, i10⟩ := hI
  have z : ν 13 0 16 = 0 := by rw [← he]; exact i10
  unfold f_R_readsCommand
  rw [hh, bind_s, if_neg (ne_m1 (by omega)), bind_s, must_ok z, bind_s]
  dsimp only
  rw [if_neg (show ¬ (1 : Int32) = 0 by decide), if_pos (show (30 : Int32) ≤ ν 13 0 20 by rw [i6, hc]; decide), bind_s, hm, bind_s]
  dsimp only
  rw [if_pos rfl]
/-- what the class makes of a command behind its word, by kind -/
def tailC (s : Nat) (act : Nat) (r : Nat × Mem) : Option Mem :=
  match act with
  | 0 => f_Script_readSell r.1 s r.2
  | 1 => f_Script_readHappen r.1 s r.2
  | 2 => (f_Reader_takeNumber 6 0 23 r.2).bind (fun q => f_Reader_takeSign 6 59 (st3 q.2 10 r.1 8 q.1))
  | 3 => (f_Reader_takeNumber 6 1 60 r.2).bind (fun q => f_Reader_takeSign 6 59 (st3 q.2 10 r.1 8 q.1))
  | _ => (f_Reader_takeNumber 6 0 20 r.2).bind (fun q => f_Script_openRepeat (st3 q.2 10 r.1 8 q.1))
def wdC (act : Nat) : Nat := match act with | 0 => 7 | 1 => 11 | 2 => 12 | 3 => 13 | _ => 14
theorem bind_id {α : Type} (a : Option α) : a.bind (fun r => some r) = a := by cases a <;> rfl
/-- which command it is -/
theorem P_which (h : RS0 6 μ ν B L) : (f_R_commandHere ν = some (-1) ∧ f_Script_readCommand s μ = f_Reader_fail 6 1 μ) ∨
    ∃ kd, kd < 5 ∧ f_Reader_sees 6 (wdC kd) μ = some 1 ∧ f_R_commandHere ν = some (nI kd) ∧ ∀ i m, f_Script_addCommand (wdC kd) (nI kd) μ = some (i, m) → i < 60 → f_Script_readCommand s μ = tailC s kd (i, m) := by
  obtain ⟨r1, a1, b1, c1⟩ := P_sees (w := 7) (w' := 32) rfl (by decide) h
  obtain ⟨r2, a2, b2, c2⟩ := P_sees (w := 11) (w' := 33) rfl (by decide) h
  obtain ⟨r3, a3, b3, c3⟩ := P_sees (w := 12) (w' := 34) rfl (by decide) h
  obtain ⟨r4, a4, b4, c4⟩ := P_sees (w := 13) (w' := 35) rfl (by decide) h
  obtain ⟨r5, a5, b5, c5⟩ := P_sees (w := 14) (w' := 36) rfl (by decide) h
  unfold f_R_commandHere f_Script_readCommand
  rw [a1, b1, bind_s, bind_s]
  rcases c1 with rfl | ⟨rfl, -, -⟩
  · rw [if_pos rfl, if_pos rfl, a2, b2, bind_s, bind_s]
    rcases c2 with rfl | ⟨rfl, -, -⟩
    · rw [if_pos rfl, if_pos rfl, a3, b3, bind_s, bind_s]
      rcases c3 with rfl | ⟨rfl, -, -⟩
      · rw [if_pos rfl, if_pos rfl, a4, b4, bind_s, bind_s]
        rcases c4 with rfl | ⟨rfl, -, -⟩
        · rw [if_pos rfl, if_pos rfl, a5, b5, bind_s, bind_s]
          rcases c5 with rfl | ⟨rfl, -, -⟩
          · rw [if_pos rfl, if_pos rfl]
            exact Or.inl ⟨rfl, bind_id _⟩
          · rw [if_neg (by decide), if_neg (by decide)]
            refine Or.inr ⟨4, by omega, a5, rfl, fun i m hm hi => ?_⟩
            rw [show f_Script_addCommand 14 4 μ = _ from hm, bind_s, chk_of (decide_eq_true hi)]
            simp only [nm_9, bind_id]
            rfl
        · rw [if_neg (by decide), if_neg (by decide)]
          refine Or.inr ⟨3, by omega, a4, rfl, fun i m hm hi => ?_⟩
          rw [show f_Script_addCommand 13 3 μ = _ from hm, bind_s, chk_of (decide_eq_true hi)]
          simp only [nm_9, bind_id]
          rfl
      · rw [if_neg (by decide), if_neg (by decide)]
        refine Or.inr ⟨2, by omega, a3, rfl, fun i m hm hi => ?_⟩
        rw [show f_Script_addCommand 12 2 μ = _ from hm, bind_s, chk_of (decide_eq_true hi)]
        simp only [nm_9, bind_id]
        rfl
    · rw [if_neg (by decide), if_neg (by decide)]
      refine Or.inr ⟨1, by omega, a2, rfl, fun i m hm hi => ?_⟩
      rw [show f_Script_addCommand 11 1 μ = _ from hm, bind_s, chk_of (decide_eq_true hi)]
      simp only [bind_id]
      rfl
  · rw [if_neg (by decide), if_neg (by decide)]
    refine Or.inr ⟨0, by omega, a1, rfl, fun i m hm hi => ?_⟩
    rw [show f_Script_addCommand 7 0 μ = _ from hm, bind_s, chk_of (decide_eq_true hi)]
    simp only [bind_id]
    rfl
def tailR (kd : Nat) (c : Int32) (v : Mem) : Option Mem :=
  match kd with
  | 0 => f_R_readsSale c v
  | 1 => (f_R_takesEvent v).bind (fun r3 => ((f_R_lays c 1 r3.1 r3.2)).bind (fun r4 => ((f_R_takesPlace r4)).bind (fun r5 => f_R_lays c 2 r5.1 r5.2)))
  | 2 => (f_R_number 0 23 v).bind (fun r7 => f_R_lays c 0 r7.1 r7.2)
  | _ => (f_R_number 1 60 v).bind (fun r9 => f_R_lays c 0 r9.1 r9.2)
theorem R_single {kd : Nat} (hc : c < 30) (hv : v 47 0 c = nI kd) (hk : kd < 4) : f_R_readsSingle (nI c) v = tailR kd (nI c) v := by
  unfold f_R_readsSingle
  rw [chk_of (inb_of hc (by omega)), nI_clamp (by omega)]
  simp only [bind_id]
  rcases (show kd = 0 ∨ kd = 1 ∨ kd = 2 ∨ kd = 3 by omega) with rfl | rfl | rfl | rfl
  · rw [if_pos (show v 47 0 c = 0 from hv)]; rfl
  · rw [if_neg (show ¬ v 47 0 c = 0 by rw [hv]; decide), if_pos (show v 47 0 c = 1 from hv)]; rfl
  · rw [if_neg (show ¬ v 47 0 c = 0 by rw [hv]; decide), if_neg (show ¬ v 47 0 c = 1 by rw [hv]; decide), if_pos (show v 47 0 c = 2 from hv)]; rfl
  · rw [if_neg (show ¬ v 47 0 c = 0 by rw [hv]; decide), if_neg (show ¬ v 47 0 c = 1 by rw [hv]; decide), if_neg (show ¬ v 47 0 c = 2 by rw [hv]; decide)]; rfl
/-- a single command's words, on both sides -/
theorem P_single {kd : Nat} (hk : kd < 4) (h0 : FB p c x μ m ν v) (hI : SI s x (c + 1) (p + 1) m v B L E P C O) (h1 : m 10 p 0 = nI kd) (h2 : v 47 0 c = nI kd) : ∃ m2 v1 v2, tailC s kd (p, m) = some m2 ∧ tailR kd (nI c) v = some v1 ∧ f_R_takesSign 59 v1 = some v2 ∧ OUTc s x c p h μ ν B L E P C O (nI p + 1) m2 v2 := by
  have i1 := hI.1
  have i2 := hI.2.1
  have hc : c < 30 := by have := hI.2.2.2.2.2.2.1; omega
  have same : ∀ {S : List (Nat × Nat)} {m2 v2 : Mem}, RDX p c S m m2 v v2 B L → m2 10 p 0 = nI kd ∧ v2 47 0 c = nI kd := fun hR => ⟨(hR.2.1.2.2.1 p 0 (Or.inr rfl)).trans h1, by rw [hR.2.1.2.2.2.1 47 (by omega) (by omega)]; exact h2⟩
  rcases (show kd = 0 ∨ kd = 1 ∨ kd = 2 ∨ kd = 3 by omega) with rfl | rfl | rfl | rfl
  · obtain ⟨m2, v1, v2, a, b, d, hR, w⟩ := P_sale (i := p) i1 i2 hc
    refine ⟨m2, v1, v2, a, b, d, OUTc.single h0 hI hR (fun z => ?_)⟩
    have q := (hR.2.2 z).2
    exact Or.inl ⟨(same hR).1, (same hR).2, q (1, 0) (by decide), q (2, 3) (by decide), q (3, 1) (by decide), q (4, 2) (by decide), q (5, 4) (by decide), q (6, 5) (by decide), q (7, 6) (by decide), w z⟩
  · obtain ⟨m2, w0, w1, w2, w3, v2, y1, y2, a, b0, b1, b2, b3, b4, hR⟩ := P_happens (i := p) i1 i2 hc
    refine ⟨m2, w3, v2, a, ?_, b4, OUTc.single h0 hI hR (fun z => ?_)⟩
    · show (f_R_takesEvent v).bind _ = _
      rw [b0, bind_s, b1, bind_s, b2, bind_s, b3]
    · have q := (hR.2.2 z).2
      exact Or.inr (Or.inl ⟨(same hR).1, (same hR).2, q (3, 1) (by decide), q (4, 2) (by decide)⟩)
  · obtain ⟨x1, m0, m2, w0, w1, v2, y1, a0, a, b0, b1, b2, hR⟩ := P_num (i := p) (lo := 0) (hi := 23) (by omega) (by omega) i1 hc
    refine ⟨m2, w1, v2, ?_, ?_, b2, OUTc.single h0 hI hR (fun z => ?_)⟩
    · show (f_Reader_takeNumber 6 0 23 m).bind _ = _
      rw [show f_Reader_takeNumber 6 0 23 m = _ from a0, bind_s]
      exact a
    · show (f_R_number 0 23 v).bind _ = _
      rw [show f_R_number 0 23 v = _ from b0, bind_s, b1]
    · exact Or.inr (Or.inr (Or.inl ⟨(same hR).1, (same hR).2, (hR.2.2 z).2 (8, 0) (by decide)⟩))
  · obtain ⟨x1, m0, m2, w0, w1, v2, y1, a0, a, b0, b1, b2, hR⟩ := P_num (i := p) (lo := 1) (hi := 60) (by omega) (by omega) i1 hc
    refine ⟨m2, w1, v2, ?_, ?_, b2, OUTc.single h0 hI hR (fun z => ?_)⟩
    · show (f_Reader_takeNumber 6 1 60 m).bind _ = _
      rw [show f_Reader_takeNumber 6 1 60 m = _ from a0, bind_s]
      exact a
    · show (f_R_number 1 60 v).bind _ = _
      rw [show f_R_number 1 60 v = _ from b0, bind_s, b1]
    · exact Or.inr (Or.inr (Or.inr ⟨(same hR).1, (same hR).2, (hR.2.2 z).2 (8, 0) (by decide)⟩))
/-- a repeat is opened -/
theorem P_open (hpx : p + x ≤ 2 * c) (hI : SI s x (c + 1) (p + 1) m v B L E P C O) : ∃ m1 v1, tailC s 4 (p, m) = some m1 ∧ (∀ FF : Int32 → Mem → Option Mem, f_R_readsRepeat FF (nI c) (nI x) v = (FF (nI (x + 1)) v1).bind (fun r7 => (f_R_takesSign 41 r7).bind (fun r8 => f_R_lays (nI c) 1 (r8 13 0 20) r8))) ∧ RS0 6 m1 v1 B L ∧ FB p c x m m1 v v1 ∧
    (m1 6 0 4 ≠ 0 ∨ (SI s (x + 1) (c + 1) (p + 1) m1 v1 B L E P C O ∧ m1 22 0 x = nI p ∧ (∃ r, r ≤ 20 ∧ m1 10 p 8 = nI r ∧ v1 48 0 (7 * c + 0) = nI r) ∧ m1 10 p 0 = m 10 p 0 ∧ v1 47 0 c = v 47 0 c)) := by
  obtain ⟨i1, i2, i3, i4, i5, i6, i7, i8, i9, i10⟩ := hI
  have hc : c < 30 := by omega
  obtain ⟨x1, y1, m0, v0, a1, b1, c1, d1⟩ := P_number (lo := 0) (hi := 20) n6_ (by omega) (by omega) i1
  have A1 := ((RDX.rf (i := p) (k := c) i1).po c1).put (f := 8) (q := 0) (x := x1) (y := y1) (fun z => by obtain ⟨_, _, _, p, q⟩ := d1 z; rw [p, q]) (by omega) (by omega) (fun _ z => by cases z)
  have F1 : FB p c x m (st3 m0 10 p 8 x1) v (st3 v0 48 0 (7 * c + 0) y1) := A1.2.1.fb (Nat.le_refl _) (Nat.le_refl _)
  obtain ⟨r, a2, b2, c2⟩ := P_sign (c := 40) (Or.inr (Or.inl rfl)) A1.1
  have hC : tailC s 4 (p, m) = f_Script_openRepeat (st3 m0 10 p 8 x1) := by
    show (f_Reader_takeNumber 6 0 20 m).bind _ = _
    rw [show f_Reader_takeNumber 6 0 20 m = _ from a1, bind_s]
  have hR : ∀ FF : Int32 → Mem → Option Mem, f_R_readsRepeat FF (nI c) (nI x) v = (f_R_must r 1 (st3 v0 48 0 (7 * c + 0) y1)).bind (fun r4 => ((if r4.1 = 0 then (some (r4.2)) else (((if (2 : Int32) ≤ nI x then (some (0)) else (some (1)) : Option (Int32))).bind (fun q10 => ((f_R_must q10 4 r4.2)).bind (fun r11 => some (r11.2)))) : Option (Mem))).bind (fun q5 => ((f_R_goesOn q5)).bind (fun r6 => ((FF (nI (x + 1)) r6)).bind (fun r7 => ((f_R_takesSign 41 r7)).bind (fun r8 => f_R_lays (nI c) 1 (r8 13 0 20) r8))))) := fun FF => by
    unfold f_R_readsRepeat
    rw [show f_R_number 0 20 v = _ from b1, bind_s, lays0 hc, bind_s, show f_R_isSign 40 _ = _ from b2, bind_s, nI_1]
    simp only [bind_id]
  have er : ∀ {m3 v3 : Mem}, PO 6 (st3 m0 10 p 8 x1) (st3 v0 48 0 (7 * c + 0) y1) m3 v3 B L → FB p c x m m3 v v3 := fun q => F1.tr q.2.1.fb (Nat.le_refl _) (Nat.le_refl _) (Nat.le_refl x)
  rcases c2 with rfl | ⟨rfl, z2⟩
  · obtain ⟨m3, v3, f1, f2, f3, f4⟩ := P_fail (c := 1) n6_ (by decide) A1.1
    refine ⟨m3, v3, ?_, fun FF => ?_, f3.1, er f3, Or.inl f4⟩
    · rw [hC]
      unfold f_Script_openRepeat f_Reader_takeSign
      rw [show f_Reader_seesSign 6 40 _ = _ from a2, bind_s, if_pos rfl, bind_s, show f_Reader_seesSign 6 40 _ = _ from a2, bind_s, if_pos rfl, f1, bind_s, bind_s, if_neg f4]
    · rw [hR, f2, bind_s]
      dsimp only
      rw [if_pos rfl, bind_s, goes_er (by rw [← f3.1.er]; exact f4), bind_s]
  · have z3 : (st3 v0 48 0 (7 * c + 0) y1) 13 0 16 = 0 := by rw [← A1.1.er]; exact z2
    by_cases hx : x = 2
    · obtain ⟨m3, v3, f1, f2, f3, f4⟩ := P_fail (c := 4) n6_ (by decide) A1.1
      refine ⟨m3, v3, ?_, fun FF => ?_, f3.1, er f3, Or.inl f4⟩
      · rw [hC]
        unfold f_Script_openRepeat
        have e10 : (st3 m0 10 p 8 x1) 6 0 10 = nI x := (A1.2.1.2.1 10 (by omega)).trans i5
        rw [show f_Reader_seesSign 6 40 _ = _ from a2, bind_s, if_neg (by decide), if_neg (show ¬ (st3 m0 10 p 8 x1) 6 0 10 < 2 by rw [e10, hx]; decide), f1, bind_s, bind_s, sign_erC f4, bind_s, if_neg f4]
      · rw [hR, must_ok z3, bind_s]
        dsimp only
        rw [if_neg (by decide), if_pos (show (2 : Int32) ≤ nI x by rw [hx]; decide), bind_s, f2, bind_s, bind_s, snd_, goes_er (by rw [← f3.1.er]; exact f4), bind_s]
    · obtain ⟨m3, v3, f1, f2, f3, f4⟩ := P_go n6_ A1.1
      have e10 : m3 6 0 10 = nI x := (f3.2.1.2.1 0 10 (by omega)).trans ((A1.2.1.2.1 10 (by omega)).trans i5)
      have e7 : m3 6 0 7 = nI (p + 1) := (f3.2.1.2.1 0 7 (by omega)).trans ((A1.2.1.2.1 7 (by omega)).trans i3)
      have e8 : m3 6 0 8 = nI (c + 1) := (f3.2.1.2.1 0 8 (by omega)).trans ((A1.2.1.2.1 8 (by omega)).trans i4)
      have e0 : m3 6 0 4 = 0 := f4.trans z2
      have F3 := er f3
      have hF : FB p c x m (st3 (st3 m3 22 0 x (nI p)) 6 0 10 (nI (x + 1))) v v3 := ⟨fun K k1 k2 k3 => by rw [st3_K k1, st3_K k3]; exact F3.1 K k1 k2 k3, fun j hj => by rw [st3_K (by omega), st3_K (by omega)]; exact F3.2.1 j hj, fun z hz => by rw [st3_K (by omega), st3_ua, ua_N (by omega)]; exact F3.2.2.1 z hz, F3.2.2.2⟩
      have hRS : RS0 6 (st3 (st3 m3 22 0 x (nI p)) 6 0 10 (nI (x + 1))) v3 B L := f3.1.cong2 (fun f f1 f2 => by rw [st3_ua, ua_N (by omega), st3_K (by omega)]) (by rw [st3_K (by omega), st3_K (by omega)]) (by rw [st3_K (by omega), st3_K (by omega)]) (fun _ _ => rfl) rfl
      refine ⟨st3 (st3 m3 22 0 x (nI p)) 6 0 10 (nI (x + 1)), v3, ?_, fun FF => ?_, hRS, hF, Or.inr ⟨⟨hRS, hF.st i2, ?_, ?_, ?_, ?_, i7, by omega, by omega, ?_⟩, ?_, ?_, ?_, ?_⟩⟩
      · rw [hC]
        unfold f_Script_openRepeat f_Reader_takeSign
        rw [show f_Reader_seesSign 6 40 _ = _ from a2, bind_s, if_neg (by decide), if_pos (show (st3 m0 10 p 8 x1) 6 0 10 < 2 by rw [(A1.2.1.2.1 10 (by omega)).trans i5]; exact nI_lt (b := 2) (by omega) (by omega)), bind_s, show f_Reader_seesSign 6 40 _ = _ from a2, bind_s, if_neg (by decide), f1, bind_s, bind_s, if_pos e0, if_neg (show ¬ (2 : Int32) ≤ m3 6 0 10 by rw [e10]; exact nI_ge (b := 2) (by omega) (by omega)), e10, chk_of (inb_of (by omega) (by omega)), nm_9, nm_9, nI_clamp (by omega), st3_K (show 6 ≠ 22 by omega), e10, e7, nI_1, show nI (p + 1) - 1 = nI p from nI_sub (a := p + 1) (b := 1) (by omega)]
      · rw [hR, must_ok z3, bind_s]
        dsimp only
        rw [if_neg (by decide), if_neg (show ¬ (2 : Int32) ≤ nI x from nI_ge (b := 2) (by omega) (by omega)), bind_s, must_ok z3, bind_s, bind_s, goes_ok z3, f2, bind_s]
      · rw [st3_ua, ua_N (by omega), st3_K (by omega)]; exact e7
      · rw [st3_ua, ua_N (by omega), st3_K (by omega)]; exact e8
      · rw [st3_ua, ua_S]
      · rw [f3.2.1.2.2.2 20 (by omega), A1.2.1.2.2.2.2.1 20 (by omega)]; exact i6
      · rw [st3_ua, ua_N (by omega), st3_K (by omega)]; exact e0
      · rw [st3_K (by omega), st3_ua, ua_S]
      · have zz : m0 6 0 4 = 0 := by rw [st3_K (by omega)] at z2; exact z2
        obtain ⟨d, -, d2, d3, d4⟩ := d1 zz
        refine ⟨d, d2, ?_, ?_⟩
        · rw [st3_K (by omega), st3_K (by omega), f3.2.1.1 10 (by omega), st3_ua, ua_S]; exact d3
        · rw [f3.2.1.2.2.1 48 (by omega), st3_ua, ua_S]; exact d4
      · rw [st3_K (by omega), st3_K (by omega), f3.2.1.1 10 (by omega)]
        exact A1.2.1.2.2.1 p 0 (Or.inr rfl)
      · rw [f3.2.1.2.2.1 47 (by omega), A1.2.1.2.2.2.1 47 (by omega) (by omega)]
/-- behind an error the class reads on without effect -/
theorem E_tail {kd i : Nat} (hk : kd < 5) (hc : m 6 0 4 ≠ 0) (hT : ST m s (v 40 0) E P C O) : ∃ m', tailC s kd (i, m) = some m' ∧ ∀ K, K ≠ 10 → m' K = m K := by
  have num : ∀ a b : Int32, (f_Reader_takeNumber 6 a b m).bind (fun q => f_Reader_takeSign 6 59 (st3 q.2 10 i 8 q.1)) = some (st3 m 10 i 8 a) := fun a b => by
    rw [num_erC hc, bind_s, sign_erC (by rw [st3_K (by omega)]; exact hc)]
  rcases (show kd = 0 ∨ kd = 1 ∨ kd = 2 ∨ kd = 3 ∨ kd = 4 by omega) with rfl | rfl | rfl | rfl | rfl
  · exact E_sale hc hT
  · exact E_happens hc hT
  · exact ⟨_, num 0 23, fun K hK => st3_K hK⟩
  · exact ⟨_, num 1 60, fun K hK => st3_K hK⟩
  · refine ⟨st3 m 10 i 8 0, ?_, fun K hK => st3_K hK⟩
    have hc' : (st3 m 10 i 8 0) 6 0 4 ≠ 0 := by rw [st3_K (by omega)]; exact hc
    show (f_Reader_takeNumber 6 0 20 m).bind (fun q => f_Script_openRepeat (st3 q.2 10 i 8 q.1)) = _
    rw [num_erC hc, bind_s]
    unfold f_Script_openRepeat
    rw [ssign_er hc', bind_s, if_pos rfl, bind_s, sign_erC hc', bind_s, if_neg hc']
end Command
