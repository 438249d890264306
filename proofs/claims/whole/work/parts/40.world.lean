/-! The whole: how the two objects' memories belong together. -/
def TXT (μ ν : Mem) (L : Nat) : Prop := L ≤ 800 ∧ μ 11 0 1 = nI L ∧ ν 13 0 9 = nI L ∧ ∀ i, i < L → ∃ b, 1 ≤ b ∧ b ≤ 255 ∧ μ 20 0 i = nI b ∧ ν 46 0 i = nI b
def GRp (μ ν : Mem) (s E P C O n w t dd h : Nat) (π : Nat → Nat) (L : Nat) : Prop :=
  (μ 12 0 3 = nI s ∧ μ 12 0 4 = nI (1 - s)) ∧ μ 9 0 0 = nI s ∧ ST μ s (ν 40 0) E P C O ∧ SH μ 0 (ν 40 0) E P C O n w t dd ∧ dd ≤ 9999 ∧ HIS μ ν s E P C O h π ∧ SLT μ ν s E P C O ∧ TXT μ ν L ∧ (μ 12 0 10 = ν 13 0 10 ∧ μ 12 0 11 = ν 13 0 11) ∧ ν 13 0 22 = 0
def GR (μ ν : Mem) : Prop := ∃ s E P C O n w t dd h π L, GRp μ ν s E P C O n w t dd h π L
theorem HIS.fr {μ μ' ν ν' : Mem} {s E P C O h : Nat} {π : Nat → Nat} (H : HIS μ ν s E P C O h π) (h1 : ∀ K, setK K → μ' K = μ K) (h2 : ∀ j K i, 2 ≤ j → j < 10 → inS j K i → μ' K i = μ K i) (h3 : μ' 2 0 1 = μ 2 0 1) (h4 : μ' 34 0 = μ 34 0) (h5 : ν' 43 0 = ν 43 0) (h6 : ν' 13 0 6 = ν 13 0 6) : HIS μ' ν' s E P C O h π := by
  obtain ⟨a1, a2, a3, a4, a5, a6⟩ := H
  refine ⟨a1, h3.trans a2, h6.trans a3, by rw [h4]; exact a4, a5, fun i hi => ?_⟩
  have := a4 i (by omega)
  refine (a6 i hi).mem (fun K i' q => h2 (π i) K i' this.2.1 this.2.2 q) h1 (fun k hk => ?_)
  unfold slice
  rw [h5]
theorem SLT.fr {μ μ' ν ν' : Mem} {s E P C O : Nat} (H : SLT μ ν s E P C O) (h1 : ∀ K, setK K → μ' K = μ K) (h2 : ∀ j K i, 10 ≤ j → j < 12 → inS j K i → μ' K i = μ K i) (h3 : μ' 36 0 = μ 36 0) (h4 : ν' 44 0 = ν 44 0) (h5 : ν' 45 0 = ν 45 0) : SLT μ' ν' s E P C O := by
  intro i hi
  rw [h3, h5]
  rcases H i hi with q | ⟨q1, q2, q3⟩
  · exact Or.inl q
  · refine Or.inr ⟨q1, q2, q3.mem (fun K i' q => h2 (10 + i) K i' (by omega) (by omega) q) h1 (fun k hk => ?_)⟩
    unfold slice
    rw [h4]
theorem TXT.fr {μ μ' ν ν' : Mem} {L : Nat} (H : TXT μ ν L) (h1 : μ' 11 0 = μ 11 0) (h2 : μ' 20 0 = μ 20 0) (h3 : ν' 13 0 9 = ν 13 0 9) (h4 : ν' 46 0 = ν 46 0) : TXT μ' ν' L := by
  unfold TXT at H ⊢
  rw [h1, h2, h3, h4]
  exact H
/-- the model's numbers that are not of this world: thrown, the reader's, the sale's -/
theorem GRp.mdl {μ ν ν' : Mem} {s E P C O n w t dd h L : Nat} {π : Nat → Nat} (H : GRp μ ν s E P C O n w t dd h π L) (hK : ∀ K, K ≠ 13 → K ≠ 41 → K ≠ 42 → K ≠ 47 → K ≠ 48 → K ≠ 49 → K ≠ 50 → ν' K = ν K) (hf : ν' 13 0 6 = ν 13 0 6 ∧ ν' 13 0 9 = ν 13 0 9 ∧ ν' 13 0 10 = ν 13 0 10 ∧ ν' 13 0 11 = ν 13 0 11 ∧ ν' 13 0 22 = ν 13 0 22) : GRp μ ν' s E P C O n w t dd h π L := by
  obtain ⟨a1, a2, a3, a4, a5, a6, a7, a8, a9, a10⟩ := H
  obtain ⟨f6, f9, f10, f11, f22⟩ := hf
  have h40 := hK 40 (by omega) (by omega) (by omega) (by omega) (by omega) (by omega) (by omega)
  refine ⟨a1, a2, by rw [h40]; exact a3, by rw [h40]; exact a4, a5, a6.fr (fun _ _ => rfl) (fun _ _ _ _ _ _ => rfl) rfl rfl (by rw [hK 43 (by omega) (by omega) (by omega) (by omega) (by omega) (by omega) (by omega)]) f6, a7.fr (fun _ _ => rfl) (fun _ _ _ _ _ _ => rfl) rfl (by rw [hK 44 (by omega) (by omega) (by omega) (by omega) (by omega) (by omega) (by omega)]) (by rw [hK 45 (by omega) (by omega) (by omega) (by omega) (by omega) (by omega) (by omega)]),
    a8.fr rfl rfl f9 (by rw [hK 46 (by omega) (by omega) (by omega) (by omega) (by omega) (by omega) (by omega)]), ⟨a9.1.trans f10.symm, a9.2.trans f11.symm⟩, f22.trans a10⟩
theorem GRp.th {μ ν : Mem} {s E P C O n w t dd h L f : Nat} {π : Nat → Nat} {x : Int32} (H : GRp μ ν s E P C O n w t dd h π L) (hf : f = 7 ∨ (12 ≤ f ∧ f ≠ 22)) : GRp μ (st3 ν 13 0 f x) s E P C O n w t dd h π L :=
  H.mdl (fun K hK _ _ _ _ _ _ => st3_K hK) ⟨by rw [st3_ua, ua_N (by omega)], by rw [st3_ua, ua_N (by omega)], by rw [st3_ua, ua_N (by omega)], by rw [st3_ua, ua_N (by omega)], by rw [st3_ua, ua_N (by omega)]⟩
theorem GRp.gr {μ ν : Mem} {s E P C O n w t dd h L : Nat} {π : Nat → Nat} (H : GRp μ ν s E P C O n w t dd h π L) : GR μ ν := ⟨s, E, P, C, O, n, w, t, dd, h, π, L, H⟩
/-- what a call answers: a number or an exception; the model: a number, and which exception -/
def RES (tab : List (String × Int32)) (o : String ⊕ Int32) (r th : Int32) : Prop := (o = .inr r ∧ th = 0) ∨ ∃ q ∈ tab, o = .inl q.1 ∧ th = q.2
def outN (ν ν' : Mem) : Prop := ν' 49 = ν 49 ∧ ν' 13 0 28 = ν 13 0 28
theorem outN.rf {ν : Mem} : outN ν ν := ⟨rfl, rfl⟩
theorem outN.st {ν ν' : Mem} {K f : Nat} {x : Int32} (h : outN ν ν') (hf : K ≠ 49 ∧ (K ≠ 13 ∨ f ≠ 28)) : outN ν (st3 ν' K 0 f x) := by
  refine ⟨by rw [st3_K (by omega)]; exact h.1, ?_⟩
  by_cases e : K = 13
  · subst e; rw [st3_ua, ua_N (by omega)]; exact h.2
  · rw [st3_K (by omega)]; exact h.2
def RdOK (μ ν : Mem) (tab : List (String × Int32)) (cf : Option (String ⊕ Int32)) (mf : Option (Int32 × Mem)) : Prop := ∃ o r ν', cf = some o ∧ mf = some (r, ν') ∧ RES tab o r (ν' 13 0 7) ∧ GR μ ν' ∧ outN ν ν'
def Rd0 (μ ν : Mem) (cf : Option Int32) (mf : Option (Int32 × Mem)) : Prop := ∃ r ν', cf = some r ∧ mf = some (r, ν') ∧ GR μ ν' ∧ outN ν ν'
def ChOK (μ ν : Mem) (tab : List (String × Int32)) (cf : Option ((String ⊕ Int32) × Mem)) (mf : Option (Int32 × Mem)) : Prop := ∃ o r μ' ν', cf = some (o, μ') ∧ mf = some (r, ν') ∧ RES tab o r (ν' 13 0 7) ∧ GR μ' ν' ∧ μ' 12 0 12 = μ 12 0 12 ∧ outN ν ν'
def Ch0 (μ ν : Mem) (cf : Option (Int32 × Mem)) (mf : Option (Int32 × Mem)) : Prop := ∃ r μ' ν', cf = some (r, μ') ∧ mf = some (r, ν') ∧ GR μ' ν' ∧ μ' 12 0 12 = μ 12 0 12 ∧ outN ν ν'
section Change
variable {μ ν : Mem} {s E P C O n w t dd h L : Nat} {π : Nat → Nat}
def excOf (k : Nat) : String := if k = 1 then xIOB else if k = 2 then xIAE else xISE
theorem C_throwFor {k : Nat} (hk : k ≤ 3) : f_P_throwFor (nI k) μ = some (if k = 0 then .inr () else .inl (excOf k)) := by
  unfold f_P_throwFor excOf
  rcases (show k = 0 ∨ k = 1 ∨ k = 2 ∨ k = 3 by omega) with rfl | rfl | rfl | rfl <;> rfl
/-- after an operation behind a record -/
theorem GRp.op {μ1 ν1 m v : Mem} {h' n' w' t' dd' : Nat} {π' : Nat → Nat} (H : GRp μ ν s E P C O n w t dd h π L) (hH : HIS μ1 ν1 s E P C O h' π') (hF : Fr2 μ μ1) (hK : ∀ K, K ≠ 43 → K ≠ 13 → ν1 K = ν K) (h13 : ∀ f, f ≠ 6 → ν1 13 0 f = ν 13 0 f) (hS : SH m 0 (v 40 0) E P C O n' w' t' dd') (hd : dd' ≤ 9999) (hC : FrC 0 μ1 m) (hN : FrN ν1 v) : GRp m v s E P C O n' w' t' dd' h' π' L := by
  obtain ⟨a1, a2, a3, a4, a5, a6, a7, a8, a9, a10⟩ := H
  have c12 : m 12 0 = μ 12 0 := (hC.1 12 0 (by unfold inS; omega)).trans (hF 12 0 (by omega) (by omega) (fun j _ _ q => by unfold inS at q; omega))
  have cK : ∀ K i, K ≠ 34 → K ≠ 2 → (∀ j, j < 10 → ¬ inS j K i) → m K i = μ K i := fun K i k1 k2 k3 => (hC.1 K i (k3 0 (by omega))).trans (hF K i k1 k2 (fun j _ hj => k3 j hj))
  have cS : ∀ K, setK K → m K = μ K := fun K q => by
    funext i
    exact cK K i (by unfold setK at q; omega) (by unfold setK at q; omega) (fun j _ z => by unfold setK at q; unfold inS at z; omega)
  have nK : ∀ K, K ≠ 40 → K ≠ 43 → K ≠ 13 → v K = ν K := fun K k1 k2 k3 => (hN.1 K k1).trans (hK K k2 k3)
  have n13 : ∀ f, f ≠ 6 → v 13 0 f = ν 13 0 f := fun f hf => by rw [hN.1 13 (by omega)]; exact h13 f hf
  have hT1 : ST μ1 s (ν1 40 0) E P C O := by rw [hK 40 (by omega) (by omega)]; exact a3.mem (fun K q => hF.set q)
  refine ⟨by rw [c12]; exact a1, ?_, hT1.fr hC hN, hS, hd, ?_, ?_, ?_, ?_, ?_⟩
  · rw [hC.2, hF.shop (j := 0) (Or.inl (by omega)) (Or.inl ⟨Or.inl rfl, rfl⟩)]; exact a2
  · exact hH.fr (fun K q => by funext i; exact hC.1 K i (by unfold setK at q; unfold inS; omega)) (fun j K i j1 j2 q => hC.1 K i (by unfold inS at q ⊢; omega)) (by rw [hC.1 2 0 (by unfold inS; omega)]) (hC.1 34 0 (by unfold inS; omega)) (by rw [hN.1 43 (by omega)]) (by rw [hN.1 13 (by omega)])
  · exact a7.fr cS (fun j K i j1 j2 q => cK K i (by unfold inS at q; omega) (by unfold inS at q; omega) (fun j' hj' z => by unfold inS at q z; omega)) (cK 36 0 (by omega) (by omega) (fun j _ z => by unfold inS at z; omega)) (by rw [nK 44 (by omega) (by omega) (by omega)]) (by rw [nK 45 (by omega) (by omega) (by omega)])
  · exact a8.fr (cK 11 0 (by omega) (by omega) (fun j _ z => by unfold inS at z; omega)) (cK 20 0 (by omega) (by omega) (fun j _ z => by unfold inS at z; omega)) (n13 9 (by omega)) (by rw [nK 46 (by omega) (by omega) (by omega)])
  · rw [c12, n13 10 (by omega), n13 11 (by omega)]; exact a9
  · rw [n13 22 (by omega)]; exact a10
theorem CH_op (H : GRp μ ν s E P C O n w t dd h π L) (h7 : ν 13 0 7 = 0) {k : Nat} {km : Int32} {cf : Option Int32} {md : Option (Int32 × Mem)} {eff : Mem → Option (Int32 × Mem)} (hO : OP 0 s E P C O n w t dd ν k km cf md eff) {tab : List (String × Int32)} (ht : k ≠ 0 → (excOf k, km) ∈ tab) :
    ChOK μ ν tab (cf.bind (fun r1 => (f_P_throwFor r1 μ).bind (fun r2 => els r2 (fun E3 => some (.inl E3, μ)) (fun _ => (f_History_record 0 μ).bind (fun r5 => (eff r5).bind (fun r6 => some (.inr r6.1, r6.2))))))) md := by
  obtain ⟨o1, o2, o3, o4⟩ := hO
  have H0 := H
  obtain ⟨a1, a2, a3, a4, a5, a6, a7, a8, a9, a10⟩ := H
  rw [o1, bind_s, C_throwFor o2, bind_s]
  by_cases hk : k = 0
  · rw [if_pos hk]
    obtain ⟨μ1, ν1, h', π', e1, e2, b1, b2, b3, b4⟩ := L_record a6 a2 a3 a5 a4
    have h40 : ν1 40 = ν 40 := b3 40 (by omega) (by omega)
    obtain ⟨x, v, g1, g2, g3⟩ := o4 hk ν1 (by unfold f_R_changes; rw [if_pos a10, e2]; rfl) h40 b4
    have hS1 : SH μ1 0 (ν 40 0) E P C O n w t dd := a4.cong ⟨b2.shop (Or.inl (by omega)) (Or.inl ⟨Or.inl rfl, rfl⟩), fun p hp => b2.shop (j := 0) (Or.inl (by omega)) (Or.inr (Or.inl ⟨rfl, by omega⟩)), fun o ho => b2.shop (j := 0) (Or.inl (by omega)) (Or.inr (Or.inr ⟨rfl, by omega⟩)), b2.shop (Or.inl (by omega)) (Or.inl ⟨Or.inr (by omega), rfl⟩), b2.shop (Or.inl (by omega)) (Or.inl ⟨Or.inr (by omega), rfl⟩), b2.shop (Or.inl (by omega)) (Or.inl ⟨Or.inr (by omega), rfl⟩), b2.shop (Or.inl (by omega)) (Or.inl ⟨Or.inr (by omega), rfl⟩), b2.shop (Or.inl (by omega)) (Or.inl ⟨Or.inr (by omega), rfl⟩)⟩ (fun _ _ => rfl) a3.2.2.2.1 a3.2.2.2.2.1
    obtain ⟨m, n', w', t', dd', e3, hd', hS, hC⟩ := g3 μ1 (by rw [b2.shop (j := 0) (Or.inl (by omega)) (Or.inl ⟨Or.inl rfl, rfl⟩)]; exact a2) (a3.mem (fun K q => b2.set q)) hS1
    refine ⟨.inr x, x, m, v, ?_, g1, Or.inl ⟨rfl, ?_⟩, (H0.op b1 b2 b3 b4 hS hd' hC g2).gr, ?_, ?_, ?_⟩
    · show (f_History_record 0 μ).bind _ = _
      rw [e1, bind_s, e3]; rfl
    · rw [g2.1 13 (by omega), b4 7 (by omega)]; exact h7
    · rw [hC.1 12 0 (by unfold inS; omega), b2 12 0 (by omega) (by omega) (fun j _ _ q => by unfold inS at q; omega)]
    · rw [g2.1 49 (by omega), b3 49 (by omega) (by omega)]
    · rw [g2.1 13 (by omega), b4 28 (by omega)]
  · rw [if_neg hk]
    obtain ⟨q1, q2⟩ := o3 hk
    exact ⟨.inl (excOf k), 0, μ, _, rfl, q2, Or.inr ⟨_, ht hk, rfl, by rw [st3_ua, ua_S]⟩, (H0.th (Or.inl rfl)).gr, rfl, outN.rf.st (by omega)⟩
theorem th0 {x : Int32} : (st3 ν 13 0 7 x) 13 0 7 = x := by rw [st3_ua, ua_S]
theorem T_ask (hG : GR μ ν) (x : Int32) : ChOK μ ν [(xIOB, 1), (xISE, 2)] (f_P_ask x μ) (f_R_ask x ν) := by
  obtain ⟨s, E, P, C, O, n, w, t, dd, h, π, L, H⟩ := hG
  have H1 := H.th (x := 0) (Or.inl rfl)
  obtain ⟨k, km, hO, hk⟩ := L_ask (j := 0) H1.2.1 H1.2.2.1 H1.2.2.2.1 H1.2.2.2.2.1 th0 x
  obtain ⟨o, r, μ', ν', e1, e2, e3, e4, e5, e6, e7⟩ := CH_op H1 th0 hO (tab := [(xIOB, 1), (xISE, 2)]) (fun z => by rcases hk with q | ⟨rfl, rfl⟩ | ⟨rfl, rfl⟩; exact absurd q z; decide; decide)
  refine ⟨o, r, μ', ν', e1, ?_, e3, e4, e5, e6.trans (st3_K (by omega)), e7.trans (by rw [st3_ua, ua_N (by omega)])⟩
  unfold f_R_ask
  rw [nm_9, e2]; rfl
theorem T_advance (hG : GR μ ν) (x : Int32) : ChOK μ ν [(xIAE, 1), (xISE, 2)] (f_P_advance x μ) (f_R_advance x ν) := by
  obtain ⟨s, E, P, C, O, n, w, t, dd, h, π, L, H⟩ := hG
  have H1 := H.th (x := 0) (Or.inl rfl)
  obtain ⟨k, km, hO, hk⟩ := L_adv (j := 0) (by omega) H1.2.1 H1.2.2.1 H1.2.2.2.1 H1.2.2.2.2.1 th0 x
  obtain ⟨o, r, μ', ν', e1, e2, e3, e4, e5, e6, e7⟩ := CH_op H1 th0 hO (tab := [(xIAE, 1), (xISE, 2)]) (fun z => by rcases hk with q | ⟨rfl, rfl⟩ | ⟨rfl, rfl⟩; exact absurd q z; decide; decide)
  refine ⟨o, r, μ', ν', e1, ?_, e3, e4, e5, e6.trans (st3_K (by omega)), e7.trans (by rw [st3_ua, ua_N (by omega)])⟩
  unfold f_R_advance
  rw [nm_9, e2]; rfl
theorem T_happen (hG : GR μ ν) (x y : Int32) : ChOK μ ν [(xIOB, 1), (xISE, 2)] (f_P_happen x y μ) (f_R_happen x y ν) := by
  obtain ⟨s, E, P, C, O, n, w, t, dd, h, π, L, H⟩ := hG
  have H1 := H.th (x := 0) (Or.inl rfl)
  obtain ⟨k, km, hO, hk⟩ := L_happen (j := 0) H1.2.1 H1.2.2.1 H1.2.2.2.1 H1.2.2.2.2.1 th0 x y
  obtain ⟨o, r, μ', ν', e1, e2, e3, e4, e5, e6, e7⟩ := CH_op H1 th0 hO (tab := [(xIOB, 1), (xISE, 2)]) (fun z => by rcases hk with q | ⟨rfl, rfl⟩ | ⟨rfl, rfl⟩; exact absurd q z; decide; decide)
  refine ⟨o, r, μ', ν', e1, ?_, e3, e4, e5, e6.trans (st3_K (by omega)), e7.trans (by rw [st3_ua, ua_N (by omega)])⟩
  unfold f_R_happen
  rw [nm_9, e2]; rfl
def tabS : List (String × Int32) := [(xIOB, 1), (xIAE, 2), (xISE, 3)]
theorem T_sell (hG : GR μ ν) {kd xc xe xp xd xl xr : Int32} (hkd : (kd = 1 ∧ xp = -1) ∨ kd = 0 ∨ kd = 2) : ChOK μ ν tabS (f_P_sellAny xc kd xe xp xd xl xr μ) (nm (st3 ν 13 0 7 0) (fun μ1 => (f_R_lengths xd xl xr μ1).bind (fun r2 => (f_R_selling xc xe xp kd r2).bind (fun r3 => some (r3.1, r3.2))))) := by
  obtain ⟨s, E, P, C, O, n, w, t, dd, h, π, L, H⟩ := hG
  have H1 := (((H.th (x := 0) (Or.inl rfl)).th (f := 23) (x := xd) (Or.inr (by omega))).th (f := 24) (x := xl) (Or.inr (by omega))).th (f := 25) (x := xr) (Or.inr (by omega))
  have h7 : (st3 (st3 (st3 (st3 ν 13 0 7 0) 13 0 23 xd) 13 0 24 xl) 13 0 25 xr) 13 0 7 = 0 := by rw [st3_ua, ua_N (by omega), st3_ua, ua_N (by omega), st3_ua, ua_N (by omega), st3_ua, ua_S]
  obtain ⟨k, hO⟩ := L_sale (j := 0) (xc := xc) (kd := kd) (xe := xe) (xp := xp) (xd := xd) (xl := xl) (xr := xr) H1.2.1 H1.2.2.1 H1.2.2.2.1 H1.2.2.2.2.1 h7 hkd (by rw [st3_ua, ua_N (by omega), st3_ua, ua_N (by omega), st3_ua, ua_S]) (by rw [st3_ua, ua_N (by omega), st3_ua, ua_S]) (by rw [st3_ua, ua_S])
  have hk3 := hO.2.1
  obtain ⟨o, r, μ', ν', e1, e2, e3, e4, e5, e6, e7⟩ := CH_op H1 h7 hO (tab := tabS) (fun z => by rcases (show k = 1 ∨ k = 2 ∨ k = 3 by omega) with rfl | rfl | rfl <;> decide)
  refine ⟨o, r, μ', ν', e1, ?_, e3, e4, e5, e6.trans ?_, e7.trans ?_⟩
  · unfold f_R_lengths
    rw [nm_9, nm_9, nm_9, nm_9, bind_s, e2]; rfl
  · simp only [st3_K (show 49 ≠ 13 by omega)]
  · rw [st3_ua, ua_N (by omega), st3_ua, ua_N (by omega), st3_ua, ua_N (by omega), st3_ua, ua_N (by omega)]
theorem sell_w {kd xc xe xp xd xl xr : Int32} : (f_P_sellAny xc kd xe xp xd xl xr μ).bind (fun r1 => els r1.1 (fun E2 => some (.inl E2, r1.2)) (fun v3 => some (.inr v3, r1.2))) = f_P_sellAny xc kd xe xp xd xl xr μ := by
  cases f_P_sellAny xc kd xe xp xd xl xr μ with
  | none => rfl
  | some r => obtain ⟨o, m⟩ := r; cases o <;> rfl
theorem T_sellPlain (hG : GR μ ν) (xc xe xp xd xl xr : Int32) : ChOK μ ν tabS (f_P_sellPlain xc xe xp xd xl xr μ) (f_R_sellPlain xc xe xp xd xl xr ν) := by
  unfold f_P_sellPlain f_R_sellPlain
  rw [sell_w]
  exact T_sell hG (Or.inr (Or.inl rfl))
theorem T_sellDenial (hG : GR μ ν) (xc xe xp xd xl xr : Int32) : ChOK μ ν tabS (f_P_sellDenial xc xe xp xd xl xr μ) (f_R_sellDenial xc xe xp xd xl xr ν) := by
  unfold f_P_sellDenial f_R_sellDenial
  rw [sell_w]
  exact T_sell hG (Or.inr (Or.inr rfl))
theorem T_sellVague (hG : GR μ ν) (xc xe xd xl xr : Int32) : ChOK μ ν tabS (f_P_sellVague xc xe xd xl xr μ) (f_R_sellVague xc xe xd xl xr ν) := by
  unfold f_P_sellVague f_R_sellVague
  rw [sell_w]
  exact T_sell hG (Or.inl ⟨rfl, rfl⟩)
end Change
