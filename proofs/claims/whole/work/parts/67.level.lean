/-! A script is executed: rounds and levels. -/
def OUTe (s E P C O : Nat) (μ0 ν0 : Mem) (p q b : Nat) (σ0 : XS) (a z : Nat) (μ : Mem) (r : Mem ⊕ (Int32 × Mem)) : Prop :=
  (∃ v t m a', r = .inl v ∧ rch exS t σ0 (exT a' q (z + t) m) ∧ t ≤ b ∧ EXR s E P C O μ0 ν0 m v a' ∧ ∀ j, j < p ∨ q ≤ j → m 10 j 10 = μ 10 j 10) ∨
  (∃ v t σ a' m, rch exS t σ0 σ ∧ STP σ a' m ∧ t ≤ b ∧ EXR s E P C O μ0 ν0 m v a' ∧ (r = .inr (0, v) ∨ (r = .inl v ∧ a' = 40)))
section Level
variable {s E P C O : Nat} {μ0 ν0 : Mem} {Q : Nat}
theorem OUTe.pre {p q b p1 b1 t1 a z a1 : Nat} {σ0 σ1 : XS} {μ μ1 : Mem} {r : Mem ⊕ (Int32 × Mem)} (hr : rch exS t1 σ0 σ1) (hb : t1 + b1 ≤ b) (hp : p ≤ p1) (hm : ∀ j, j < p ∨ q ≤ j → μ1 10 j 10 = μ 10 j 10) (h : OUTe s E P C O μ0 ν0 p1 q b1 σ1 a1 (z + t1) μ1 r) : OUTe s E P C O μ0 ν0 p q b σ0 a z μ r := by
  rcases h with ⟨v, t, m, a', h1, h2, h3, h4, h5⟩ | ⟨v, t, σ, a', m, h2, h3, h4, h5, h6⟩
  · exact Or.inl ⟨v, t1 + t, m, a', h1, by rw [← Nat.add_assoc]; exact hr.tr h2, by omega, h4, fun j hj => (h5 j (by omega)).trans (hm j hj)⟩
  · exact Or.inr ⟨v, t1 + t, σ, a', m, hr.tr h2, h3, by omega, h5, h6⟩
theorem EXR.blk {n h k e p q a : Nat} {μ ν : Mem} (hX : EXR s E P C O μ0 ν0 μ ν a) (hB : BLK μ0 ν0 n h k e p q) : BLK μ0 ν n h k e p q := hB.cong (fun _ _ _ _ _ => rfl) (fun z _ _ => by rw [hX.2.2.2.2.1 47 (by omega) (by omega)]) (fun z _ _ => by rw [hX.2.2.2.2.1 48 (by omega) (by omega)])
/-- the rounds of a repeat -/
theorem rounds {n h k e e' p q' r : Nat} (hF : EXF s E P C O μ0 ν0) (hQ : μ0 6 0 7 = nI Q) (hQ6 : Q ≤ 60) (hR : REP μ0 ν0 p k e' q') (hr : r ≤ 20) (h48 : ν0 48 0 (7 * k + 0) = nI r) (hB : BLK μ0 ν0 n h (k + 1) e' (p + 1) q') (he : e' ≤ 30) (hq : q' < Q) (he2 : e ≤ 30) (b : Nat)
    (ih : ∀ (a z : Nat) (μ ν : Mem), EXR s E P C O μ0 ν0 μ ν a → z + b ≤ 999999 → ∃ r, lvR (f_R_das (h + 1)) e' (e' - (k + 1) + 1) (k + 1) ν r ∧ OUTe s E P C O μ0 ν0 (p + 1) q' b (exT a (p + 1) z μ) a z μ r) :
    ∀ (d i a z : Nat) (μ ν : Mem), i + d = r → EXR s E P C O μ0 ν0 μ ν a → z + d * (b + 1) ≤ 999999 → (d ≠ 0 → μ 10 p 10 = nI d) →
      ∃ x, it (fun (y : Int32 × Mem) => s_R_doesAll_20 (f_R_das (h + 2)) (nI e) (nI k) y.1 y.2) (d + 1) (nI i, ν) = some x ∧ OUTe s E P C O μ0 ν0 p (q' + 1) (d * (b + 1)) (exT a (if d = 0 then q' + 1 else p + 1) z μ) a z μ x := by
  have hle := hB.le
  have hk : k < 30 := by omega
  obtain ⟨R1, R2, R3, R4, R5, R6, R7⟩ := hR
  have v48 : ∀ {a : Nat} {μ ν : Mem}, EXR s E P C O μ0 ν0 μ ν a → ν 48 0 (7 * k + 0) = nI r ∧ ν 48 0 (7 * k + 1) = nI e' := fun hX => by
    rw [hX.2.2.2.2.1 48 (by omega) (by omega)]
    exact ⟨h48, R5⟩
  have stop : ∀ {a : Nat} {μ ν : Mem} (d i : Nat), i + d = r → EXR s E P C O μ0 ν0 μ ν a → a = 40 → ∃ x, it (fun (y : Int32 × Mem) => s_R_doesAll_20 (f_R_das (h + 2)) (nI e) (nI k) y.1 y.2) (d + 1) (nI i, ν) = some x ∧ (x = .inl ν ∨ x = .inr (0, ν)) := fun {a μ ν} d i hi hX ha => by
    subst ha
    have h40 : ν 13 0 21 = 40 := hX.2.2.2.2.2.2.2.1
    obtain ⟨rb, b1, b2⟩ := level40 (μ0 := μ0) h40 h n (k + 1) e' (p + 1) q' (hX.blk hB) he
    have hFb : ∃ b, f_R_das (h + 2) (nI (k + 1)) (nI e') ν = some (b, ν) := by
      have := b1.all (by omega)
      rcases b2 with rfl | rfl
      · exact ⟨1, this⟩
      · exact ⟨0, this⟩
    exact rounds40 hk (v48 hX).1 hr (v48 hX).2 hFb d i hi
  intro d
  induction d with
  | zero =>
    intro i a z μ ν hi hX hz hd
    refine ⟨.inl ν, it_r ?_, Or.inl ⟨ν, 0, μ, a, rfl, rfl, by omega, hX, fun _ _ => rfl⟩⟩
    show s_R_doesAll_20 _ (nI e) (nI k) (nI i) ν = _
    unfold s_R_doesAll_20
    rw [laid0 hk, bind_s, (v48 hX).1, if_pos (nI_le (by omega) (by omega))]
  | succ d ihd =>
    intro i a z μ ν hi hX hz hd
    have hdb : (d + 1) * (b + 1) = d * (b + 1) + (b + 1) := Nat.succ_mul d (b + 1)
    obtain ⟨rb, b1, b2⟩ := ih a z μ ν hX (by omega)
    have st : s_R_doesAll_20 (f_R_das (h + 2)) (nI e) (nI k) (nI i) ν = (els rb (fun r2 => some ((1 : Int32), r2)) (fun v => some v)).bind (fun r3 => if r3.1 = 0 then (some (.inr (.inr ((0, r3.2))))) else (some (.inl ((nI (i + 1), r3.2))))) := by
      unfold s_R_doesAll_20
      rw [laid0 hk, bind_s, (v48 hX).1, if_neg (nI_ge (by omega) (by omega)), laid1 hk, bind_s, (v48 hX).2, nI_1, show f_R_das (h + 2) (nI (k + 1)) (nI e') ν = _ from b1.all (by omega), nI_1]
    rw [if_neg (show ¬ d + 1 = 0 by omega)]
    rcases b2 with ⟨v, t, m, a', c1, c2, c3, c4, c5⟩ | ⟨v, t, σ, a', m, c2, c3, c4, c5, c6⟩
    · subst c1
      rw [els_l, bind_s, if_neg n1_] at st
      by_cases ha : a' = 40
      · obtain ⟨x, x1, x2⟩ := stop d (i + 1) (by omega) c4 ha
        subst ha
        refine ⟨x, it_l st x1, Or.inr ⟨v, t, _, 40, m, c2, stp40, by omega, c4, ?_⟩⟩
        rcases x2 with rfl | rfl
        · exact Or.inr ⟨rfl, rfl⟩
        · exact Or.inl rfl
      · have ha' : a' < 40 := by have := c4.2.2.2.2.2.2.2.2; omega
        have hcl := ex_close (a := a') (p := p) (z := z + t) (d := d) (q' := q') (μ := m) ha' (by omega) hq hQ6 (by omega) (c4.q hQ) ((c4.2.2.2.1 q' 0 (by omega)).trans R6) ((c4.2.2.2.1 q' 9 (by omega)).trans R7) (by rw [c5 p (by omega)]; exact hd (by omega)) (by omega)
        obtain ⟨x, x1, x2⟩ := ihd (i + 1) a' (z + t + 1) (st3 m 10 p 10 (nI d)) v (by omega) c4.r10 (by omega) (fun _ => by rw [st3_ua, ua_S])
        refine ⟨x, it_l st x1, OUTe.pre (t1 := t + 1) (b1 := d * (b + 1)) (c2.tr (rch.one hcl)) (by omega) (Nat.le_refl p) (fun j hj => ?_) x2⟩
        rw [st3_J (by omega)]
        exact c5 j (by omega)
    · rcases c6 with rfl | ⟨rfl, ha⟩
      · rw [els_r, bind_s, if_pos rfl] at st
        exact ⟨_, it_r st, Or.inr ⟨v, t, σ, a', m, c2, c3, by omega, c5, Or.inl rfl⟩⟩
      · rw [els_l, bind_s, if_neg n1_] at st
        obtain ⟨x, x1, x2⟩ := stop d (i + 1) (by omega) c5 ha
        refine ⟨x, it_l st x1, Or.inr ⟨v, t, σ, a', m, c2, c3, by omega, c5, ?_⟩⟩
        rcases x2 with rfl | rfl
        · exact Or.inr ⟨rfl, ha⟩
        · exact Or.inl rfl
theorem pw1 {h : Nat} : 1 ≤ 21 ^ h := Nat.pow_pos (by omega)
theorem pwm {h x y : Nat} (hx : x ≤ y) : 21 ^ h * x ≤ 21 ^ h * y := Nat.mul_le_mul_left _ hx
/-- a level -/
theorem levelE {h : Nat} (hF : EXF s E P C O μ0 ν0) (hQ : μ0 6 0 7 = nI Q) (hQ6 : Q ≤ 60)
    (ihh : ∀ h', h = h' + 1 → ∀ (n k e p q : Nat), BLK μ0 ν0 n h' k e p q → e ≤ 30 → q ≤ Q → ∀ (a z : Nat) (μ ν : Mem), EXR s E P C O μ0 ν0 μ ν a → z + 21 ^ h' * (e - k) ≤ 999999 → ∃ r, lvR (f_R_das (h' + 1)) e (e - k + 1) k ν r ∧ OUTe s E P C O μ0 ν0 p q (21 ^ h' * (e - k)) (exT a p z μ) a z μ r) :
    ∀ (n k e p q : Nat), BLK μ0 ν0 n h k e p q → e ≤ 30 → q ≤ Q → ∀ (a z : Nat) (μ ν : Mem), EXR s E P C O μ0 ν0 μ ν a → z + 21 ^ h * (e - k) ≤ 999999 → ∃ r, lvR (f_R_das (h + 1)) e (e - k + 1) k ν r ∧ OUTe s E P C O μ0 ν0 p q (21 ^ h * (e - k)) (exT a p z μ) a z μ r := by
  intro n
  induction n with
  | zero =>
    intro k e p q hB he hq a z μ ν hX hz
    obtain ⟨rfl, rfl⟩ := hB
    exact ⟨.inl ν, lv_end he, Or.inl ⟨ν, 0, μ, a, rfl, rfl, by omega, hX, fun _ _ => rfl⟩⟩
  | succ n ih =>
    intro k e p q hB he hq a z μ ν hX hz
    have p1 := pw1 (h := h)
    by_cases ha : a = 40
    · subst ha
      obtain ⟨r, r1, r2⟩ := level40 (μ0 := μ0) (show ν 13 0 21 = 40 from hX.2.2.2.2.2.2.2.1) h (n + 1) k e p q (hX.blk hB) he
      refine ⟨r, r1, Or.inr ⟨ν, 0, _, 40, μ, rfl, stp40, by omega, hX, ?_⟩⟩
      rcases r2 with rfl | rfl
      · exact Or.inr ⟨rfl, rfl⟩
      · exact Or.inl rfl
    · have ha' : a < 40 := by have := hX.2.2.2.2.2.2.2.2; omega
      have e47 : ν 47 = ν0 47 := hX.2.2.2.2.1 47 (by omega) (by omega)
      rcases hB with ⟨rfl, rfl⟩ | ⟨S, hB⟩ | ⟨h', e', q', rfl, R, hB1, hB2⟩
      · exact ⟨.inl ν, lv_end he, Or.inl ⟨ν, 0, μ, a, rfl, rfl, by omega, hX, fun _ _ => rfl⟩⟩
      · have hle := hB.le
        have hpw : 21 ^ h * (e - (k + 1)) + 21 ^ h = 21 ^ h * (e - k) := by
          rw [← Nat.mul_succ]
          congr 1
          omega
        have S9 := S.now hX
        have hst : ∀ {y : Int32} {v : Mem}, f_R_does (nI k) ν = some (y, v) → s_R_doesAll_2 (f_R_das (h + 1)) (nI e) (nI k) ν = if (v 13 0 7) = 0 then (some (.inl ((nI (k + 1), st3 v 13 0 21 ((v 13 0 21) + 1))))) else (some (.inr (.inr ((0, v))))) := fun {y v} q1 => by
          unfold s_R_doesAll_2
          rw [if_neg (nI_ge (by omega) (by omega)), chk_of (inb_of (by omega) (by omega)), nI_clamp (by omega), if_neg S9.kd.1, if_neg (show ¬ ν 13 0 21 = 40 by
            rw [hX.2.2.2.2.2.2.2.1]
            intro z9
            have := (nI_eq (a := a) (b := 40) (by omega) (by omega)).mp z9
            omega), q1, bind_s, nI_1]
          split <;> rfl
        have hin := ex_in ha' (show p < Q by omega) hQ6 (show z < 1000000 by omega) (hX.q hQ)
        rw [if_neg S9.kd.2.1, if_neg S9.kd.2.2] at hin
        rcases X_one hX hF S (by omega) with ⟨y, v, x1, x2, x3, x4⟩ | ⟨y, m, v, x1, x2, x3, x4, x5⟩
        · refine ⟨.inr (0, v), it_r ?_, Or.inr ⟨v, 0, _, a, μ, rfl, Or.inr ?_, by omega, x4, Or.inl rfl⟩⟩
          · have := hst x2
            rw [if_neg x3] at this
            exact this
          · rw [hin, x1, bind_s, if_pos rfl]
        · have h1 := hst x2
          rw [if_pos x3] at h1
          have e21 : v 13 0 21 = nI a := x4.2.2.2.2.2.2.2.1
          rw [e21, nI_1] at h1
          have hX2 : EXR s E P C O μ0 ν0 m (st3 v 13 0 21 (nI (a + 1))) (a + 1) := by
            obtain ⟨w1, w2, w3, w4, w5, w6, w7, w8, w9⟩ := x4
            exact ⟨by rw [st3_K (show 40 ≠ 13 by omega)]; exact w1, w2, w3, w4, fun K k1 k2 => (st3_K k1).trans (w5 K k1 k2), fun i hi => by rw [st3_K (by omega)]; exact w6 i hi, fun f f1 f2 f3 => by rw [st3_ua, ua_N f2]; exact w7 f f1 f2 f3, by rw [st3_ua, ua_S], by omega⟩
          obtain ⟨r, r1, r2⟩ := ih (k + 1) e (p + 1) q hB he hq (a + 1) (z + 1) m _ hX2 (by omega)
          refine ⟨r, ?_, OUTe.pre (t1 := 1) (rch.one (b := exT (a + 1) (p + 1) (z + 1) m) ?_) (by omega) (show p ≤ p + 1 by omega) (fun j _ => by rw [x5 j]) r2⟩
          · have : e - k + 1 = (e - (k + 1) + 1) + 1 := by omega
            rw [this]
            exact it_l h1 r1
          · rw [hin, x1, bind_s, if_neg n1_]
            unfold exT
            rw [nI_1, nI_1, nI_1]
      · have l1 := hB1.le
        have l2 := hB2.le
        have hR := R
        obtain ⟨R1, R2, ⟨r, r1, r2, r3⟩, R4, R5, R6, R7⟩ := R
        have pX := pw1 (h := h')
        generalize hb : 21 ^ h' * (e' - (k + 1)) = b at *
        -- the rooms
        have hpow : 21 ^ (h' + 1) * (e' - k) = 21 * b + 21 * 21 ^ h' := by
          rw [← hb, Nat.pow_succ, show e' - k = (e' - (k + 1)) + 1 by omega]
          generalize 21 ^ h' = X
          generalize e' - (k + 1) = Y
          rw [Nat.mul_add, Nat.mul_one, Nat.mul_comm X 21, Nat.mul_assoc]
        have hsum : 21 ^ (h' + 1) * (e - k) = 21 ^ (h' + 1) * (e' - k) + 21 ^ (h' + 1) * (e - e') := by
          rw [← Nat.mul_add]
          congr 1
          omega
        have hrb : r * (b + 1) ≤ 20 * b + 20 := by
          have : r * (b + 1) ≤ 20 * (b + 1) := Nat.mul_le_mul_right _ r1
          omega
        obtain ⟨x, x1, x2⟩ := rounds (e := e) hF hQ hQ6 hR r1 r3 hB1 (by omega) (by omega) he b (fun a z μ ν hX hz => by
          have := ihh h' rfl n (k + 1) e' (p + 1) q' hB1 (by omega) (by omega) a z μ ν hX (by rw [hb]; exact hz)
          rw [hb] at this
          exact this) r 0 a (z + 1) (st3 μ 10 p 10 (nI r)) ν (by omega) hX.r10 (by omega) (fun _ => by rw [st3_ua, ua_S])
        have hrep := ex_rep (r := r) (q' := q') ha' (show p < Q by omega) hQ6 (show z < 1000000 by omega) (hX.q hQ) ((hX.2.2.2.1 p 0 (by omega)).trans R1) ((hX.2.2.2.1 p 8 (by omega)).trans r2) r1 ((hX.2.2.2.1 p 9 (by omega)).trans R4)
        have x1' : it (fun (y : Int32 × Mem) => s_R_doesAll_20 (f_R_das (h' + 2)) (nI e) (nI k) y.1 y.2) LIM (0, ν) = some x := it_mono (show r + 1 ≤ 3000000 by omega) x1
        have k47 : ν 47 0 k = 4 := by rw [e47]; exact R2
        have x3 : OUTe s E P C O μ0 ν0 p (q' + 1) (r * (b + 1) + 1) (exT a p z μ) a z μ x := OUTe.pre (t1 := 1) (rch.one hrep) (by omega) (Nat.le_refl p) (fun j hj => by rw [st3_J (by omega)]) x2
        rcases x3 with ⟨v, t, m, a', c1, c2, c3, c4, c5⟩ | ⟨v, t, σ, a', m, c2, c3, c4, c5, c6⟩
        · subst c1
          obtain ⟨r9, d1, d2⟩ := ih e' e (q' + 1) q hB2 he hq a' (z + t) m v c4 (by omega)
          refine ⟨r9, (R_rep (by omega) (by omega) he k47 (by rw [c4.2.2.2.2.1 48 (by omega) (by omega)]; exact R5) x1' d1).mono (by omega), OUTe.pre c2 (by omega) (by omega) (fun j hj => c5 j (by omega)) d2⟩
        · rcases c6 with rfl | ⟨rfl, h40⟩
          · exact ⟨_, (R_repX (n := 0) (by omega) (by omega) he k47 x1').mono (by omega), Or.inr ⟨v, t, σ, a', m, c2, c3, by omega, c5, Or.inl rfl⟩⟩
          · subst h40
            obtain ⟨r9, d1, d2⟩ := level40 (μ0 := μ0) (show v 13 0 21 = 40 from c5.2.2.2.2.2.2.2.1) (h' + 1) n e' e (q' + 1) q (c5.blk hB2) he
            refine ⟨r9, (R_rep (by omega) (by omega) he k47 (by rw [c5.2.2.2.2.1 48 (by omega) (by omega)]; exact R5) x1' d1).mono (by omega), Or.inr ⟨v, t, σ, 40, m, c2, c3, by omega, c5, ?_⟩⟩
            rcases d2 with rfl | rfl
            · exact Or.inr ⟨rfl, rfl⟩
            · exact Or.inl rfl
theorem levels (hF : EXF s E P C O μ0 ν0) (hQ : μ0 6 0 7 = nI Q) (hQ6 : Q ≤ 60) : ∀ (h n k e p q : Nat), BLK μ0 ν0 n h k e p q → e ≤ 30 → q ≤ Q → ∀ (a z : Nat) (μ ν : Mem), EXR s E P C O μ0 ν0 μ ν a → z + 21 ^ h * (e - k) ≤ 999999 → ∃ r, lvR (f_R_das (h + 1)) e (e - k + 1) k ν r ∧ OUTe s E P C O μ0 ν0 p q (21 ^ h * (e - k)) (exT a p z μ) a z μ r
  | 0 => levelE hF hQ hQ6 (fun h' e => by omega)
  | h + 1 => levelE hF hQ hQ6 (fun h' e => by
    obtain rfl : h = h' := by omega
    exact levels hF hQ hQ6 h)
end Level
