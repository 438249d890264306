theorem coC_0 : CO 0 RJ0 TJ0 4 tyJ0 := ⟨rfl, fun w h => lw_g (List.mem_append_left _ (iwTJ0 w h)) (List.all_eq_true.mp (show (u_ws RJ0 TJ0 4).all goodWord = true by decide +kernel) w h), tyJ0_ok, nmJ0⟩
theorem coC_1 : CO 1 RJ4 TJ4 4 tyJ4 := ⟨rfl, fun w h => lw_g (List.mem_append_left _ (iwTJ4 w h)) (List.all_eq_true.mp (show (u_ws RJ4 TJ4 4).all goodWord = true by decide +kernel) w h), tyJ4_ok, nmJ4⟩
theorem coC_2 : CO 2 RX0 TX0 2 tyX0 := ⟨rfl, fun w h => lw_g (List.mem_append_left _ (iwTX0 w h)) (List.all_eq_true.mp (show (u_ws RX0 TX0 2).all goodWord = true by decide +kernel) w h), tyX0_ok, nmX0⟩
theorem coC_3 : CO 3 RX1 TX1 2 tyX1 := ⟨rfl, fun w h => lw_g (List.mem_append_left _ (iwTX1 w h)) (List.all_eq_true.mp (show (u_ws RX1 TX1 2).all goodWord = true by decide +kernel) w h), tyX1_ok, nmX1⟩
theorem coC_4 : CO 4 RX2 TX2 5 tyX2 := ⟨rfl, fun w h => lw_g (List.mem_append_left _ (iwTX2 w h)) (List.all_eq_true.mp (show (u_ws RX2 TX2 5).all goodWord = true by decide +kernel) w h), tyX2_ok, nmX2⟩
theorem coC_5 : CO 5 RX3 TX3 10 tyX3 := ⟨rfl, fun w h => lw_g (List.mem_append_left _ (iwTX3 w h)) (List.all_eq_true.mp (show (u_ws RX3 TX3 10).all goodWord = true by decide +kernel) w h), tyX3_ok, nmX3⟩
theorem coC_6 : CO 6 RX5 TX5 11 tyX5 := ⟨rfl, fun w h => lw_g (List.mem_append_left _ (iwTX5 w h)) (List.all_eq_true.mp (show (u_ws RX5 TX5 11).all goodWord = true by decide +kernel) w h), tyX5_ok, nmX5⟩
theorem coC_7 : CO 7 RX6 TX6 12 tyX6 := ⟨rfl, fun w h => lw_g (List.mem_append_left _ (iwTX6 w h)) (List.all_eq_true.mp (show (u_ws RX6 TX6 12).all goodWord = true by decide +kernel) w h), tyX6_ok, nmX6⟩
theorem coC_8 : CO 8 RX7 TX7 6 tyX7 := ⟨rfl, fun w h => lw_g (List.mem_append_left _ (iwTX7 w h)) (List.all_eq_true.mp (show (u_ws RX7 TX7 6).all goodWord = true by decide +kernel) w h), tyX7_ok, nmX7⟩
theorem coC_9 : CO 9 RX8 TX8 15 tyX8 := ⟨rfl, fun w h => lw_g (List.mem_append_left _ (iwTX8 w h)) (List.all_eq_true.mp (show (u_ws RX8 TX8 15).all goodWord = true by decide +kernel) w h), tyX8_ok, nmX8⟩
theorem coC_10 : CO 10 RX9 TX9 11 tyX9 := ⟨rfl, fun w h => lw_g (List.mem_append_left _ (iwTX9 w h)) (List.all_eq_true.mp (show (u_ws RX9 TX9 11).all goodWord = true by decide +kernel) w h), tyX9_ok, nmX9⟩
theorem coC_11 : CO 11 RX10 TX10 2 tyX10 := ⟨rfl, fun w h => lw_g (List.mem_append_left _ (iwTX10 w h)) (List.all_eq_true.mp (show (u_ws RX10 TX10 2).all goodWord = true by decide +kernel) w h), tyX10_ok, nmX10⟩
theorem coC_12 : CO 12 RX11 TX11 13 tyX11 := ⟨rfl, fun w h => lw_g (List.mem_append_left _ (iwTX11 w h)) (List.all_eq_true.mp (show (u_ws RX11 TX11 13).all goodWord = true by decide +kernel) w h), tyX11_ok, nmX11⟩
theorem coC_13 : CO 13 RX12 TX12 35 tyX12 := ⟨rfl, fun w h => lw_g (List.mem_append_left _ (iwTX12 w h)) (List.all_eq_true.mp (show (u_ws RX12 TX12 35).all goodWord = true by decide +kernel) w h), tyX12_ok, nmX12⟩
theorem v_2 : vc 2 0 := rfl
theorem v_6 : vc 6 0 := rfl
theorem v_8 : vc 8 0 := rfl
theorem v_11 : vc 11 0 := rfl
theorem v_12 : vc 12 0 := rfl
theorem v_20 : vc 20 0 := rfl
theorem v_21 : vc 21 0 := rfl
theorem v_22 : vc 22 0 := rfl
theorem v_34 : vc 34 0 := rfl
theorem v_35 : vc 35 0 := rfl
theorem v_36 : vc 36 0 := rfl
theorem tv_3_0 {j : Nat} (h : vc 3 j) : vc 23 (j) := by
  have h1 : j < 6 := h
  show j < 6
  omega
theorem tv_7_5 {j : Nat} (h : vc 7 j) : vc 3 (3 * j) := by
  have h1 : j < 2 := h
  show 3 * j < 6
  omega
theorem tv_7_6 {j : Nat} (h : vc 7 j) : vc 3 (3 * j + 1) := by
  have h1 : j < 2 := h
  show 3 * j + 1 < 6
  omega
theorem tv_7_7 {j : Nat} (h : vc 7 j) : vc 3 (3 * j + 2) := by
  have h1 : j < 2 := h
  show 3 * j + 2 < 6
  omega
theorem tv_7_8 {j : Nat} (h : vc 7 j) : vc 24 (j) := by
  have h1 : j < 2 := h
  show j < 2
  omega
theorem tv_7_9 {j : Nat} (h : vc 7 j) : vc 25 (j) := by
  have h1 : j < 2 := h
  show j < 2
  omega
theorem tv_7_10 {j : Nat} (h : vc 7 j) : vc 26 (j) := by
  have h1 : j < 2 := h
  show j < 2
  omega
theorem tv_9_3 {j : Nat} (h : vc 9 j) : vc 27 (j) := by
  have h1 : j < 12 := h
  show j < 12
  omega
theorem tv_9_4 {j : Nat} (h : vc 9 j) : vc 28 (j) := by
  have h1 : j < 12 := h
  show j < 12
  omega
theorem tv_9_6 {j : Nat} (h : vc 9 j) : vc 29 (j) := by
  have h1 : j < 12 := h
  show j < 12
  omega
theorem tv_9_7 {j : Nat} (h : vc 9 j) : vc 30 (j) := by
  have h1 : j < 12 := h
  show j < 12
  omega
theorem tv_9_9 {j : Nat} (h : vc 9 j) : vc 31 (j) := by
  have h1 : j < 12 := h
  show j < 12
  omega
theorem tv_9_10 {j : Nat} (h : vc 9 j) : vc 32 (j) := by
  have h1 : j < 12 := h
  show j < 12
  omega
theorem tv_9_11 {j : Nat} (h : vc 9 j) : vc 33 (j) := by
  have h1 : j < 12 := h
  show j < 12
  omega
theorem tv_60_15 {b j : Nat} (h : vo b 60 j) : vo b 61 j := ⟨by decide, by decide, h.2.2⟩
theorem tv_60_16 {b j : Nat} (h : vo b 60 j) : vo b 62 j := ⟨by decide, by decide, h.2.2⟩
theorem tv_60_17 {b j : Nat} (h : vo b 60 j) : vo b 63 j := ⟨by decide, by decide, h.2.2⟩
theorem tv_60_18 {b j : Nat} (h : vo b 60 j) : vo b 64 j := ⟨by decide, by decide, h.2.2⟩
theorem tv_60_19 {b j : Nat} (h : vo b 60 j) : vo b 65 j := ⟨by decide, by decide, h.2.2⟩
theorem tv_60_20 {b j : Nat} (h : vo b 60 j) : vo b 66 j := ⟨by decide, by decide, h.2.2⟩
theorem tv_60_21 {b j : Nat} (h : vo b 60 j) : vo b 67 j := ⟨by decide, by decide, h.2.2⟩
theorem tv_60_22 {b j : Nat} (h : vo b 60 j) : vo b 68 j := ⟨by decide, by decide, h.2.2⟩
theorem tv_60_23 {b j : Nat} (h : vo b 60 j) : vo b 69 j := ⟨by decide, by decide, h.2.2⟩
theorem tv_60_24 {b j : Nat} (h : vo b 60 j) : vo b 70 j := ⟨by decide, by decide, h.2.2⟩
theorem tv_60_25 {b j : Nat} (h : vo b 60 j) : vo b 71 j := ⟨by decide, by decide, h.2.2⟩
theorem tv_60_26 {b j : Nat} (h : vo b 60 j) : vo b 72 j := ⟨by decide, by decide, h.2.2⟩
theorem tv_60_27 {b j : Nat} (h : vo b 60 j) : vo b 73 j := ⟨by decide, by decide, h.2.2⟩
theorem tv_60_28 {b j : Nat} (h : vo b 60 j) : vo b 74 j := ⟨by decide, by decide, h.2.2⟩
theorem tv_60_29 {b j : Nat} (h : vo b 60 j) : vo b 75 j := ⟨by decide, by decide, h.2.2⟩
theorem tv_60_30 {b j : Nat} (h : vo b 60 j) : vo b 76 j := ⟨by decide, by decide, h.2.2⟩
theorem tv_60_31 {b j : Nat} (h : vo b 60 j) : vo b 77 j := ⟨by decide, by decide, h.2.2⟩
theorem tv_60_32 {b j : Nat} (h : vo b 60 j) : vo b 78 j := ⟨by decide, by decide, h.2.2⟩
theorem tv_60_33 {b j : Nat} (h : vo b 60 j) : vo b 79 j := ⟨by decide, by decide, h.2.2⟩
theorem tv_60_34 {b j : Nat} (h : vo b 60 j) : vo b 80 j := ⟨by decide, by decide, h.2.2⟩
theorem ta_21 {j : Nat} {i : Int32} (h : vc 21 j) (b : inb i 60 = true) : vc 10 (i.toNatClampNeg) := by
  have h1 := inb_lt b
  have h2 : j = 0 := h
  show i.toNatClampNeg < 60
  omega
theorem ta_28 {j : Nat} {i : Int32} (h : vc 28 j) (b : inb i 24 = true) : vc 5 (24 * j + i.toNatClampNeg) := by
  have h1 := inb_lt b
  have h2 : j < 12 := h
  show 24 * j + i.toNatClampNeg < 288
  omega
theorem ta_29 {j : Nat} {i : Int32} (h : vc 29 j) (b : inb i 5 = true) : vc 4 (5 * j + i.toNatClampNeg) := by
  have h1 := inb_lt b
  have h2 : j < 12 := h
  show 5 * j + i.toNatClampNeg < 60
  omega
theorem ta_35 {j : Nat} {i : Int32} (h : vc 35 j) (b : inb i 2 = true) : vc 9 (10 + i.toNatClampNeg) := by
  have h1 := inb_lt b
  have h2 : j = 0 := h
  show 10 + i.toNatClampNeg < 12
  omega
/-- the letters of the String constants -/
def sTx : Nat → List Int32
  | 0 => []
  | 1 => [115, 104, 111, 112, 32, 49, 48, 48, 32, 50, 32, 53, 32, 49, 48, 48, 32, 53, 48, 59, 32, 101, 118, 101, 110, 116, 32, 114, 97, 105, 110, 59, 32, 101, 118, 101, 110, 116, 32, 119, 97, 114, 59, 32, 112, 108, 97, 99, 101, 32, 105, 110, 110, 59, 32, 112, 108, 97, 99, 101, 32, 109, 105, 108, 108, 59, 32, 112, 108, 97, 99, 101, 32, 112, 97, 115, 115, 59, 32, 99, 117, 115, 116, 111, 109, 101, 114, 32, 97, 100, 97, 32, 56, 48, 32, 52, 59, 32, 99, 117, 115, 116, 111, 109, 101, 114, 32, 98, 101, 110, 32, 51, 48, 48, 32, 57, 59, 32, 99, 117, 115, 116, 111, 109, 101, 114, 32, 99, 97, 105, 32, 50, 48, 32, 49, 53, 59, 32, 111, 119, 108, 32, 51, 59, 32, 111, 119, 108, 32, 53, 59]
  | 2 => [115, 104, 111, 112]
  | 3 => [101, 118, 101, 110, 116]
  | 4 => [112, 108, 97, 99, 101]
  | 5 => [99, 117, 115, 116, 111, 109, 101, 114]
  | 6 => [111, 119, 108]
  | 7 => [110, 111, 32, 99, 104, 97, 110, 103, 101, 32, 99, 97, 110, 32, 98, 101, 32, 117, 110, 100, 111, 110, 101]
  | 8 => [99]
  | 9 => [58, 33]
  | 10 => [58]
  | 11 => [101]
  | 12 => [42]
  | 13 => [112]
  | 14 => [110, 111, 32, 115, 117, 99, 104, 32, 110, 117, 109, 98, 101, 114]
  | 15 => [116, 104, 101, 32, 112, 114, 111, 112, 104, 101, 99, 121, 32, 105, 115, 32, 111, 112, 101, 110]
  | 16 => [110, 111, 32, 115, 117, 99, 104, 32, 115, 116, 97, 116, 101]
  | 17 => [44]
  | 18 => []
  | 19 => [116, 104, 101, 32, 100, 97, 121, 115, 32, 97, 114, 101, 32, 111, 117, 116, 32, 111, 102, 32, 114, 97, 110, 103, 101]
  | 20 => [97, 32, 118, 97, 108, 117, 101, 32, 105, 115, 32, 111, 117, 116, 32, 111, 102, 32, 114, 97, 110, 103, 101]
  | 21 => [110, 111, 116, 32, 112, 111, 115, 115, 105, 98, 108, 101, 32, 110, 111, 119]
  | 22 => [115, 104, 111, 112, 32]
  | 23 => [101, 118, 101, 110, 116, 32]
  | 24 => [112, 108, 97, 99, 101, 32]
  | 25 => [99, 117, 115, 116, 111, 109, 101, 114, 32]
  | 26 => [111, 119, 108, 32]
  | 27 => [116, 104, 101, 32, 116, 101, 120, 116, 32, 119, 111, 117, 108, 100, 32, 98, 101, 32, 116, 111, 111, 32, 108, 111, 110, 103]
  | _ => []
def sLen (i : Nat) : Int32 := Int32.ofNat (sTx i).length
def sAt (i : Nat) (k : Int32) : Int32 := (sTx i).getD k.toNatClampNeg 0
/-- the old cells hold the constants: their object at i, their bytes at 40 + i -/
def sObj (i : Nat) : Nat → RV := fun k => if k = 0 then .inr (1, 40 + i) else .inl (.int 0)
def SG (g : GL) : Prop := ∀ i, i < 28 → g.2.2.2.2.2 i = some (false, 14, 0, sObj i) ∧ g.2.2.2.2.2 (40 + i) = some (true, 2, (sTx i).length, fun j => .inl (.int ((sTx i).getD j 0)))
theorem st_0 : ("ProphecyShop", 76, "", 0) ∈ rStr := by decide +kernel
theorem st_1 : ("ProphecyShop", 82, "shop 100 2 5 100 50; event rain; event war; place inn; place mill; place pass; customer ada 80 4; customer ben 300 9; customer cai 20 15; owl 3; owl 5;", 1) ∈ rStr := by decide +kernel
theorem st_2 : ("ProphecyShop$SetupReader", 57, "shop", 2) ∈ rStr := by decide +kernel
theorem st_3 : ("ProphecyShop$SetupReader", 24, "event", 3) ∈ rStr := by decide +kernel
theorem st_4 : ("ProphecyShop$SetupReader", 34, "place", 4) ∈ rStr := by decide +kernel
theorem st_5 : ("ProphecyShop$SetupReader", 104, "customer", 5) ∈ rStr := by decide +kernel
theorem st_6 : ("ProphecyShop$SetupReader", 113, "owl", 6) ∈ rStr := by decide +kernel
theorem st_7 : ("ProphecyShop", 349, "no change can be undone", 7) ∈ rStr := by decide +kernel
theorem st_8 : ("ProphecyShopLaw", 52, "c", 8) ∈ rStr := by decide +kernel
theorem st_9 : ("ProphecyShopLaw", 68, ":!", 9) ∈ rStr := by decide +kernel
theorem st_10 : ("ProphecyShopLaw", 70, ":", 10) ∈ rStr := by decide +kernel
theorem st_11 : ("ProphecyShopLaw", 72, "e", 11) ∈ rStr := by decide +kernel
theorem st_12 : ("ProphecyShopLaw", 80, "*", 12) ∈ rStr := by decide +kernel
theorem st_13 : ("ProphecyShopLaw", 82, "p", 13) ∈ rStr := by decide +kernel
theorem st_14 : ("ProphecyShop", 370, "no such number", 14) ∈ rStr := by decide +kernel
theorem st_15 : ("ProphecyShop", 227, "the prophecy is open", 15) ∈ rStr := by decide +kernel
theorem st_16 : ("ProphecyShop", 267, "no such state", 16) ∈ rStr := by decide +kernel
theorem st_17 : ("ProphecyShopLaw", 232, ",", 17) ∈ rStr := by decide +kernel
theorem st_18 : ("ProphecyShopLaw", 234, "", 18) ∈ rStr := by decide +kernel
theorem st_19 : ("ProphecyShop", 303, "the days are out of range", 19) ∈ rStr := by decide +kernel
theorem st_20 : ("ProphecyShop", 373, "a value is out of range", 20) ∈ rStr := by decide +kernel
theorem st_21 : ("ProphecyShop", 375, "not possible now", 21) ∈ rStr := by decide +kernel
theorem st_22 : ("ProphecyShopLaw", 360, "shop ", 22) ∈ rStr := by decide +kernel
theorem st_23 : ("ProphecyShopLaw", 365, "event ", 23) ∈ rStr := by decide +kernel
theorem st_24 : ("ProphecyShopLaw", 367, "place ", 24) ∈ rStr := by decide +kernel
theorem st_25 : ("ProphecyShopLaw", 372, "customer ", 25) ∈ rStr := by decide +kernel
theorem st_26 : ("ProphecyShopLaw", 380, "owl ", 26) ∈ rStr := by decide +kernel
theorem st_27 : ("ProphecyShop", 110, "the text would be too long", 27) ∈ rStr := by decide +kernel
theorem fg_History_11_2 : FLg "ProphecyShop$History" 11 2 0 := ⟨_, _, _, _, "ProphecyShop$History", coC_2, by decide, wg_387, Or.inl rfl⟩
theorem fl_History_17_2 : FL "ProphecyShop$History" 17 2 1 false (tyX0 1) := ⟨_, _, _, _, "ProphecyShop$History", coC_2, by decide, wg_388, Or.inl rfl, rfl, (fun h => by cases h), rfl⟩
theorem fg_Prophecy_9_5 : FLg "ProphecyShop$Prophecy" 9 5 0 := ⟨_, _, _, _, "ProphecyShop$Prophecy", coC_5, by decide, wg_251, Or.inl rfl⟩
theorem fl_Prophecy_9_5 : FL "ProphecyShop$Prophecy" 9 5 0 false (tyX3 0) := ⟨_, _, _, _, "ProphecyShop$Prophecy", coC_5, by decide, wg_251, Or.inl rfl, rfl, (fun h => by cases h), rfl⟩
theorem fg_Prophecy_15_5 : FLg "ProphecyShop$Prophecy" 15 5 1 := ⟨_, _, _, _, "ProphecyShop$Prophecy", coC_5, by decide, wg_254, Or.inl rfl⟩
theorem fl_Prophecy_15_5 : FL "ProphecyShop$Prophecy" 15 5 1 false (tyX3 1) := ⟨_, _, _, _, "ProphecyShop$Prophecy", coC_5, by decide, wg_254, Or.inl rfl, rfl, (fun h => by cases h), rfl⟩
theorem fg_Prophecy_18_5 : FLg "ProphecyShop$Prophecy" 18 5 2 := ⟨_, _, _, _, "ProphecyShop$Prophecy", coC_5, by decide, wg_257, Or.inl rfl⟩
theorem fl_Prophecy_18_5 : FL "ProphecyShop$Prophecy" 18 5 2 false (tyX3 2) := ⟨_, _, _, _, "ProphecyShop$Prophecy", coC_5, by decide, wg_257, Or.inl rfl, rfl, (fun h => by cases h), rfl⟩
theorem fg_Prophecy_21_5 : FLg "ProphecyShop$Prophecy" 21 5 3 := ⟨_, _, _, _, "ProphecyShop$Prophecy", coC_5, by decide, wg_260, Or.inl rfl⟩
theorem fl_Prophecy_21_5 : FL "ProphecyShop$Prophecy" 21 5 3 false (tyX3 3) := ⟨_, _, _, _, "ProphecyShop$Prophecy", coC_5, by decide, wg_260, Or.inl rfl, rfl, (fun h => by cases h), rfl⟩
theorem fg_Prophecy_24_5 : FLg "ProphecyShop$Prophecy" 24 5 4 := ⟨_, _, _, _, "ProphecyShop$Prophecy", coC_5, by decide, wg_263, Or.inl rfl⟩
theorem fl_Prophecy_24_5 : FL "ProphecyShop$Prophecy" 24 5 4 false (tyX3 4) := ⟨_, _, _, _, "ProphecyShop$Prophecy", coC_5, by decide, wg_263, Or.inl rfl, rfl, (fun h => by cases h), rfl⟩
theorem fg_Prophecy_27_5 : FLg "ProphecyShop$Prophecy" 27 5 5 := ⟨_, _, _, _, "ProphecyShop$Prophecy", coC_5, by decide, wg_266, Or.inl rfl⟩
theorem fl_Prophecy_27_5 : FL "ProphecyShop$Prophecy" 27 5 5 false (tyX3 5) := ⟨_, _, _, _, "ProphecyShop$Prophecy", coC_5, by decide, wg_266, Or.inl rfl, rfl, (fun h => by cases h), rfl⟩
theorem fg_Prophecy_30_5 : FLg "ProphecyShop$Prophecy" 30 5 6 := ⟨_, _, _, _, "ProphecyShop$Prophecy", coC_5, by decide, wg_269, Or.inl rfl⟩
theorem fl_Prophecy_30_5 : FL "ProphecyShop$Prophecy" 30 5 6 false (tyX3 6) := ⟨_, _, _, _, "ProphecyShop$Prophecy", coC_5, by decide, wg_269, Or.inl rfl, rfl, (fun h => by cases h), rfl⟩
theorem fg_Prophecy_33_5 : FLg "ProphecyShop$Prophecy" 33 5 7 := ⟨_, _, _, _, "ProphecyShop$Prophecy", coC_5, by decide, wg_271, Or.inl rfl⟩
theorem fl_Prophecy_33_5 : FL "ProphecyShop$Prophecy" 33 5 7 false (tyX3 7) := ⟨_, _, _, _, "ProphecyShop$Prophecy", coC_5, by decide, wg_271, Or.inl rfl, rfl, (fun h => by cases h), rfl⟩
theorem fg_Prophecy_36_5 : FLg "ProphecyShop$Prophecy" 36 5 8 := ⟨_, _, _, _, "ProphecyShop$Prophecy", coC_5, by decide, wg_274, Or.inl rfl⟩
theorem fl_Prophecy_36_5 : FL "ProphecyShop$Prophecy" 36 5 8 false (tyX3 8) := ⟨_, _, _, _, "ProphecyShop$Prophecy", coC_5, by decide, wg_274, Or.inl rfl, rfl, (fun h => by cases h), rfl⟩
theorem fg_Prophecy_39_5 : FLg "ProphecyShop$Prophecy" 39 5 9 := ⟨_, _, _, _, "ProphecyShop$Prophecy", coC_5, by decide, wg_277, Or.inl rfl⟩
theorem fl_Prophecy_39_5 : FL "ProphecyShop$Prophecy" 39 5 9 false (tyX3 9) := ⟨_, _, _, _, "ProphecyShop$Prophecy", coC_5, by decide, wg_277, Or.inl rfl, rfl, (fun h => by cases h), rfl⟩
theorem fg_Owl_9_4 : FLg "ProphecyShop$Owl" 9 4 0 := ⟨_, _, _, _, "ProphecyShop$Owl", coC_4, by decide, wg_306, Or.inl rfl⟩
theorem fl_Owl_9_4 : FL "ProphecyShop$Owl" 9 4 0 false (tyX2 0) := ⟨_, _, _, _, "ProphecyShop$Owl", coC_4, by decide, wg_306, Or.inl rfl, rfl, (fun h => by cases h), rfl⟩
theorem fg_Owl_15_4 : FLg "ProphecyShop$Owl" 15 4 1 := ⟨_, _, _, _, "ProphecyShop$Owl", coC_4, by decide, wg_309, Or.inl rfl⟩
theorem fl_Owl_15_4 : FL "ProphecyShop$Owl" 15 4 1 false (tyX2 1) := ⟨_, _, _, _, "ProphecyShop$Owl", coC_4, by decide, wg_309, Or.inl rfl, rfl, (fun h => by cases h), rfl⟩
theorem fg_Owl_18_4 : FLg "ProphecyShop$Owl" 18 4 2 := ⟨_, _, _, _, "ProphecyShop$Owl", coC_4, by decide, wg_312, Or.inl rfl⟩
theorem fl_Owl_18_4 : FL "ProphecyShop$Owl" 18 4 2 false (tyX2 2) := ⟨_, _, _, _, "ProphecyShop$Owl", coC_4, by decide, wg_312, Or.inl rfl, rfl, (fun h => by cases h), rfl⟩
theorem fg_Owl_21_4 : FLg "ProphecyShop$Owl" 21 4 3 := ⟨_, _, _, _, "ProphecyShop$Owl", coC_4, by decide, wg_313, Or.inl rfl⟩
theorem fl_Owl_21_4 : FL "ProphecyShop$Owl" 21 4 3 false (tyX2 3) := ⟨_, _, _, _, "ProphecyShop$Owl", coC_4, by decide, wg_313, Or.inl rfl, rfl, (fun h => by cases h), rfl⟩
theorem fg_Owl_24_4 : FLg "ProphecyShop$Owl" 24 4 4 := ⟨_, _, _, _, "ProphecyShop$Owl", coC_4, by decide, wg_314, Or.inl rfl⟩
theorem fl_Owl_24_4 : FL "ProphecyShop$Owl" 24 4 4 false (tyX2 4) := ⟨_, _, _, _, "ProphecyShop$Owl", coC_4, by decide, wg_314, Or.inl rfl, rfl, (fun h => by cases h), rfl⟩
theorem fg_Shop_61_9 : FLg "ProphecyShop$Shop" 61 9 0 := ⟨_, _, _, _, "ProphecyShop$Shop", coC_9, by decide, wg_326, Or.inl rfl⟩
theorem fl_Shop_61_9 : FL "ProphecyShop$Shop" 61 9 0 false (tyX8 0) := ⟨_, _, _, _, "ProphecyShop$Shop", coC_9, by decide, wg_326, Or.inl rfl, rfl, (fun h => by cases h), rfl⟩
theorem fg_Shop_9_9 : FLg "ProphecyShop$Shop" 9 9 1 := ⟨_, _, _, _, "ProphecyShop$Shop", coC_9, by decide, wg_327, Or.inl rfl⟩
theorem fl_Shop_9_9 : FL "ProphecyShop$Shop" 9 9 1 false (tyX8 1) := ⟨_, _, _, _, "ProphecyShop$Shop", coC_9, by decide, wg_327, Or.inl rfl, rfl, (fun h => by cases h), rfl⟩
theorem fg_Shop_15_9 : FLg "ProphecyShop$Shop" 15 9 2 := ⟨_, _, _, _, "ProphecyShop$Shop", coC_9, by decide, wg_329, Or.inl rfl⟩
theorem fl_Shop_15_9 : FL "ProphecyShop$Shop" 15 9 2 false (tyX8 2) := ⟨_, _, _, _, "ProphecyShop$Shop", coC_9, by decide, wg_329, Or.inl rfl, rfl, (fun h => by cases h), rfl⟩
theorem fg_Shop_28_9 : FLg "ProphecyShop$Shop" 28 9 5 := ⟨_, _, _, _, "ProphecyShop$Shop", coC_9, by decide, wg_333, Or.inl rfl⟩
theorem fl_Shop_28_9 : FL "ProphecyShop$Shop" 28 9 5 false (tyX8 5) := ⟨_, _, _, _, "ProphecyShop$Shop", coC_9, by decide, wg_333, Or.inl rfl, rfl, (fun h => by cases h), rfl⟩
theorem fg_Shop_40_9 : FLg "ProphecyShop$Shop" 40 9 8 := ⟨_, _, _, _, "ProphecyShop$Shop", coC_9, by decide, wg_337, Or.inl rfl⟩
theorem fl_Shop_40_9 : FL "ProphecyShop$Shop" 40 9 8 false (tyX8 8) := ⟨_, _, _, _, "ProphecyShop$Shop", coC_9, by decide, wg_337, Or.inl rfl, rfl, (fun h => by cases h), rfl⟩
theorem fg_Shop_52_9 : FLg "ProphecyShop$Shop" 52 9 12 := ⟨_, _, _, _, "ProphecyShop$Shop", coC_9, by decide, wg_342, Or.inl rfl⟩
theorem fl_Shop_52_9 : FL "ProphecyShop$Shop" 52 9 12 false (tyX8 12) := ⟨_, _, _, _, "ProphecyShop$Shop", coC_9, by decide, wg_342, Or.inl rfl, rfl, (fun h => by cases h), rfl⟩
theorem fg_Shop_55_9 : FLg "ProphecyShop$Shop" 55 9 13 := ⟨_, _, _, _, "ProphecyShop$Shop", coC_9, by decide, wg_343, Or.inl rfl⟩
theorem fl_Shop_55_9 : FL "ProphecyShop$Shop" 55 9 13 false (tyX8 13) := ⟨_, _, _, _, "ProphecyShop$Shop", coC_9, by decide, wg_343, Or.inl rfl, rfl, (fun h => by cases h), rfl⟩
theorem fg_Shop_58_9 : FLg "ProphecyShop$Shop" 58 9 14 := ⟨_, _, _, _, "ProphecyShop$Shop", coC_9, by decide, wg_345, Or.inl rfl⟩
theorem fl_Shop_58_9 : FL "ProphecyShop$Shop" 58 9 14 false (tyX8 14) := ⟨_, _, _, _, "ProphecyShop$Shop", coC_9, by decide, wg_345, Or.inl rfl, rfl, (fun h => by cases h), rfl⟩
theorem fg_Shop_18_9 : FLg "ProphecyShop$Shop" 18 9 3 := ⟨_, _, _, _, "ProphecyShop$Shop", coC_9, by decide, wg_331, Or.inl rfl⟩
theorem fg_Shop_37_9 : FLg "ProphecyShop$Shop" 37 9 7 := ⟨_, _, _, _, "ProphecyShop$Shop", coC_9, by decide, wg_336, Or.inl rfl⟩
theorem fg_Shop_43_9 : FLg "ProphecyShop$Shop" 43 9 9 := ⟨_, _, _, _, "ProphecyShop$Shop", coC_9, by decide, wg_339, Or.inl rfl⟩
theorem fg_Shop_46_9 : FLg "ProphecyShop$Shop" 46 9 10 := ⟨_, _, _, _, "ProphecyShop$Shop", coC_9, by decide, wg_340, Or.inl rfl⟩
theorem fg_Shop_49_9 : FLg "ProphecyShop$Shop" 49 9 11 := ⟨_, _, _, _, "ProphecyShop$Shop", coC_9, by decide, wg_341, Or.inl rfl⟩
theorem fg_Shop_24_9 : FLg "ProphecyShop$Shop" 24 9 4 := ⟨_, _, _, _, "ProphecyShop$Shop", coC_9, by decide, wg_332, Or.inl rfl⟩
theorem fg_Shop_33_9 : FLg "ProphecyShop$Shop" 33 9 6 := ⟨_, _, _, _, "ProphecyShop$Shop", coC_9, by decide, wg_335, Or.inl rfl⟩
theorem fg_History_17_2 : FLg "ProphecyShop$History" 17 2 1 := ⟨_, _, _, _, "ProphecyShop$History", coC_2, by decide, wg_388, Or.inl rfl⟩
theorem fg_Text_15_11 : FLg "ProphecyShop$Text" 15 11 1 := ⟨_, _, _, _, "ProphecyShop$Text", coC_11, by decide, wg_49, Or.inl rfl⟩
theorem fg_Text_9_11 : FLg "ProphecyShop$Text" 9 11 0 := ⟨_, _, _, _, "ProphecyShop$Text", coC_11, by decide, wg_48, Or.inl rfl⟩
theorem fl_Text_15_11 : FL "ProphecyShop$Text" 15 11 1 false (tyX10 1) := ⟨_, _, _, _, "ProphecyShop$Text", coC_11, by decide, wg_49, Or.inl rfl, rfl, (fun h => by cases h), rfl⟩
theorem fg_Shop_119_5 : FLg "ProphecyShop$Shop" 119 5 1 := ⟨_, _, _, _, "ProphecyShop$Prophecy", coC_5, by decide, wg_255, Or.inl rfl⟩
theorem fg_Shop_165_7 : FLg "ProphecyShop$Shop" 165 7 3 := ⟨_, _, _, _, "ProphecyShop$Setup", coC_7, by decide, wg_189, Or.inl rfl⟩
theorem fg_Shop_162_7 : FLg "ProphecyShop$Shop" 162 7 4 := ⟨_, _, _, _, "ProphecyShop$Setup", coC_7, by decide, wg_192, Or.inl rfl⟩
theorem fg_Shop_134_5 : FLg "ProphecyShop$Shop" 134 5 6 := ⟨_, _, _, _, "ProphecyShop$Prophecy", coC_5, by decide, wg_270, Or.inl rfl⟩
theorem fg_Shop_137_5 : FLg "ProphecyShop$Shop" 137 5 7 := ⟨_, _, _, _, "ProphecyShop$Prophecy", coC_5, by decide, wg_272, Or.inl rfl⟩
theorem fg_Shop_168_5 : FLg "ProphecyShop$Shop" 168 5 8 := ⟨_, _, _, _, "ProphecyShop$Prophecy", coC_5, by decide, wg_275, Or.inl rfl⟩
theorem fg_Shop_171_7 : FLg "ProphecyShop$Shop" 171 7 2 := ⟨_, _, _, _, "ProphecyShop$Setup", coC_7, by decide, wg_186, Or.inl rfl⟩
theorem fg_Shop_213_7 : FLg "ProphecyShop$Shop" 213 7 11 := ⟨_, _, _, _, "ProphecyShop$Setup", coC_7, by decide, wg_209, Or.inl rfl⟩
theorem fg_Shop_216_4 : FLg "ProphecyShop$Shop" 216 4 0 := ⟨_, _, _, _, "ProphecyShop$Owl", coC_4, by decide, wg_307, Or.inl rfl⟩
theorem fg_Names_15_3 : FLg "ProphecyShop$Names" 15 3 1 := ⟨_, _, _, _, "ProphecyShop$Names", coC_3, by decide, wg_170, Or.inl rfl⟩
theorem fg_Setup_50_7 : FLg "ProphecyShop$Setup" 50 7 11 := ⟨_, _, _, _, "ProphecyShop$Setup", coC_7, by decide, wg_208, Or.inl rfl⟩
theorem fg_Setup_47_7 : FLg "ProphecyShop$Setup" 47 7 10 := ⟨_, _, _, _, "ProphecyShop$Setup", coC_7, by decide, wg_207, Or.inl rfl⟩
theorem fg_Setup_37_7 : FLg "ProphecyShop$Setup" 37 7 7 := ⟨_, _, _, _, "ProphecyShop$Setup", coC_7, by decide, wg_201, Or.inl rfl⟩
theorem fg_Setup_44_7 : FLg "ProphecyShop$Setup" 44 7 9 := ⟨_, _, _, _, "ProphecyShop$Setup", coC_7, by decide, wg_206, Or.inl rfl⟩
theorem fl_Shop_137_5 : FL "ProphecyShop$Shop" 137 5 7 false (tyX3 7) := ⟨_, _, _, _, "ProphecyShop$Prophecy", coC_5, by decide, wg_272, Or.inl rfl, rfl, (fun h => by cases h), rfl⟩
theorem fg_Shop_116_5 : FLg "ProphecyShop$Shop" 116 5 0 := ⟨_, _, _, _, "ProphecyShop$Prophecy", coC_5, by decide, wg_252, Or.inl rfl⟩
theorem fl_Shop_140_5 : FL "ProphecyShop$Shop" 140 5 9 false (tyX3 9) := ⟨_, _, _, _, "ProphecyShop$Prophecy", coC_5, by decide, wg_278, Or.inl rfl, rfl, (fun h => by cases h), rfl⟩
theorem fg_Shop_231_7 : FLg "ProphecyShop$Shop" 231 7 1 := ⟨_, _, _, _, "ProphecyShop$Setup", coC_7, by decide, wg_183, Or.inl rfl⟩
theorem fg_ProphecyShop_47_12 : FLg "ProphecyShop" 47 12 5 := ⟨_, _, _, _, "ProphecyShop", coC_12, by decide, wg_628, Or.inl rfl⟩
theorem fg_ProphecyShop_57_12 : FLg "ProphecyShop" 57 12 7 := ⟨_, _, _, _, "ProphecyShop", coC_12, by decide, wg_630, Or.inl rfl⟩
theorem fg_ProphecyShop_246_5 : FLg "ProphecyShop" 246 5 9 := ⟨_, _, _, _, "ProphecyShop$Prophecy", coC_5, by decide, wg_279, Or.inl rfl⟩
theorem fg_ProphecyShop_10_12 : FLg "ProphecyShop" 10 12 0 := ⟨_, _, _, _, "ProphecyShop", coC_12, by decide, wg_623, Or.inl rfl⟩
theorem fg_ProphecyShop_149_9 : FLg "ProphecyShop" 149 9 2 := ⟨_, _, _, _, "ProphecyShop$Shop", coC_9, by decide, wg_330, Or.inl rfl⟩
theorem fg_ProphecyShop_51_12 : FLg "ProphecyShop" 51 12 6 := ⟨_, _, _, _, "ProphecyShop", coC_12, by decide, wg_629, Or.inl rfl⟩
theorem fg_Setup_40_7 : FLg "ProphecyShop$Setup" 40 7 8 := ⟨_, _, _, _, "ProphecyShop$Setup", coC_7, by decide, wg_205, Or.inl rfl⟩
theorem fg_Setup_9_7 : FLg "ProphecyShop$Setup" 9 7 0 := ⟨_, _, _, _, "ProphecyShop$Setup", coC_7, by decide, wg_178, Or.inl rfl⟩
theorem fg_Setup_53_3 : FLg "ProphecyShop$Setup" 53 3 1 := ⟨_, _, _, _, "ProphecyShop$Names", coC_3, by decide, wg_171, Or.inl rfl⟩
theorem fg_Shop_241_4 : FLg "ProphecyShop$Shop" 241 4 1 := ⟨_, _, _, _, "ProphecyShop$Owl", coC_4, by decide, wg_311, Or.inl rfl⟩
theorem fg_ProphecyShop_35_12 : FLg "ProphecyShop" 35 12 3 := ⟨_, _, _, _, "ProphecyShop", coC_12, by decide, wg_626, Or.inl rfl⟩
theorem fg_ProphecyShop_275_9 : FLg "ProphecyShop" 275 9 14 := ⟨_, _, _, _, "ProphecyShop$Shop", coC_9, by decide, wg_346, Or.inl rfl⟩
theorem fg_ProphecyShop_164_7 : FLg "ProphecyShop" 164 7 7 := ⟨_, _, _, _, "ProphecyShop$Setup", coC_7, by decide, wg_204, Or.inl rfl⟩
theorem fg_ProphecyShop_156_3 : FLg "ProphecyShop" 156 3 1 := ⟨_, _, _, _, "ProphecyShop$Names", coC_3, by decide, wg_172, Or.inl rfl⟩
theorem fg_ProphecyShop_202_5 : FLg "ProphecyShop" 202 5 0 := ⟨_, _, _, _, "ProphecyShop$Prophecy", coC_5, by decide, wg_253, Or.inl rfl⟩
theorem fg_ProphecyShop_146_9 : FLg "ProphecyShop" 146 9 1 := ⟨_, _, _, _, "ProphecyShop$Shop", coC_9, by decide, wg_328, Or.inl rfl⟩
theorem fg_ProphecyShop_222_5 : FLg "ProphecyShop" 222 5 7 := ⟨_, _, _, _, "ProphecyShop$Prophecy", coC_5, by decide, wg_273, Or.inl rfl⟩
theorem fg_ProphecyShop_219_5 : FLg "ProphecyShop" 219 5 5 := ⟨_, _, _, _, "ProphecyShop$Prophecy", coC_5, by decide, wg_268, Or.inl rfl⟩
theorem fg_ProphecyShop_230_5 : FLg "ProphecyShop" 230 5 8 := ⟨_, _, _, _, "ProphecyShop$Prophecy", coC_5, by decide, wg_276, Or.inl rfl⟩
theorem fg_ProphecyShop_73_12 : FLg "ProphecyShop" 73 12 11 := ⟨_, _, _, _, "ProphecyShop", coC_12, by decide, wg_634, Or.inl rfl⟩
theorem fg_ProphecyShop_152_7 : FLg "ProphecyShop" 152 7 5 := ⟨_, _, _, _, "ProphecyShop$Setup", coC_7, by decide, wg_196, Or.inl rfl⟩
theorem fg_ProphecyShop_207_5 : FLg "ProphecyShop" 207 5 2 := ⟨_, _, _, _, "ProphecyShop$Prophecy", coC_5, by decide, wg_259, Or.inl rfl⟩
theorem fg_ProphecyShop_216_5 : FLg "ProphecyShop" 216 5 4 := ⟨_, _, _, _, "ProphecyShop$Prophecy", coC_5, by decide, wg_265, Or.inl rfl⟩
theorem fg_ProphecyShop_272_9 : FLg "ProphecyShop" 272 9 13 := ⟨_, _, _, _, "ProphecyShop$Shop", coC_9, by decide, wg_344, Or.inl rfl⟩
theorem fg_Shop_106_7 : FLg "ProphecyShop$Shop" 106 7 5 := ⟨_, _, _, _, "ProphecyShop$Setup", coC_7, by decide, wg_195, Or.inl rfl⟩
theorem fg_Shop_94_7 : FLg "ProphecyShop$Shop" 94 7 6 := ⟨_, _, _, _, "ProphecyShop$Setup", coC_7, by decide, wg_199, Or.inl rfl⟩
theorem fg_Shop_128_5 : FLg "ProphecyShop$Shop" 128 5 4 := ⟨_, _, _, _, "ProphecyShop$Prophecy", coC_5, by decide, wg_264, Or.inl rfl⟩
theorem fg_ProphecyShop_161_7 : FLg "ProphecyShop" 161 7 6 := ⟨_, _, _, _, "ProphecyShop$Setup", coC_7, by decide, wg_200, Or.inl rfl⟩
theorem fg_ProphecyShop_252_7 : FLg "ProphecyShop" 252 7 11 := ⟨_, _, _, _, "ProphecyShop$Setup", coC_7, by decide, wg_210, Or.inl rfl⟩
theorem fg_ProphecyShop_259_4 : FLg "ProphecyShop" 259 4 0 := ⟨_, _, _, _, "ProphecyShop$Owl", coC_4, by decide, wg_308, Or.inl rfl⟩
theorem fg_ProphecyShop_213_5 : FLg "ProphecyShop" 213 5 1 := ⟨_, _, _, _, "ProphecyShop$Prophecy", coC_5, by decide, wg_256, Or.inl rfl⟩
theorem fg_Setup_30_7 : FLg "ProphecyShop$Setup" 30 7 5 := ⟨_, _, _, _, "ProphecyShop$Setup", coC_7, by decide, wg_193, Or.inl rfl⟩
theorem fl_Setup_53_3 : FL "ProphecyShop$Setup" 53 3 1 false (tyX1 1) := ⟨_, _, _, _, "ProphecyShop$Names", coC_3, by decide, wg_171, Or.inl rfl, rfl, (fun h => by cases h), rfl⟩
theorem fg_Setup_34_7 : FLg "ProphecyShop$Setup" 34 7 6 := ⟨_, _, _, _, "ProphecyShop$Setup", coC_7, by decide, wg_197, Or.inl rfl⟩
theorem fl_Setup_50_7 : FL "ProphecyShop$Setup" 50 7 11 false (tyX6 11) := ⟨_, _, _, _, "ProphecyShop$Setup", coC_7, by decide, wg_208, Or.inl rfl, rfl, (fun h => by cases h), rfl⟩
theorem fg_Reader_18_8 : FLg "ProphecyShop$Reader" 18 8 3 := ⟨_, _, _, _, "ProphecyShop$Reader", coC_8, by decide, wg_68, Or.inl rfl⟩
theorem fl_Reader_15_8 : FL "ProphecyShop$Reader" 15 8 2 false (tyX7 2) := ⟨_, _, _, _, "ProphecyShop$Reader", coC_8, by decide, wg_67, Or.inl rfl, rfl, (fun h => by cases h), rfl⟩
theorem fg_Reader_15_8 : FLg "ProphecyShop$Reader" 15 8 2 := ⟨_, _, _, _, "ProphecyShop$Reader", coC_8, by decide, wg_67, Or.inl rfl⟩
theorem fg_Reader_27_8 : FLg "ProphecyShop$Reader" 27 8 0 := ⟨_, _, _, _, "ProphecyShop$Reader", coC_8, by decide, wg_65, Or.inl rfl⟩
theorem fl_Reader_11_8 : FL "ProphecyShop$Reader" 11 8 1 false (tyX7 1) := ⟨_, _, _, _, "ProphecyShop$Reader", coC_8, by decide, wg_66, Or.inl rfl, rfl, (fun h => by cases h), rfl⟩
theorem fg_Reader_11_8 : FLg "ProphecyShop$Reader" 11 8 1 := ⟨_, _, _, _, "ProphecyShop$Reader", coC_8, by decide, wg_66, Or.inl rfl⟩
theorem fl_Reader_18_8 : FL "ProphecyShop$Reader" 18 8 3 false (tyX7 3) := ⟨_, _, _, _, "ProphecyShop$Reader", coC_8, by decide, wg_68, Or.inl rfl, rfl, (fun h => by cases h), rfl⟩
theorem fl_Reader_21_8 : FL "ProphecyShop$Reader" 21 8 4 false (tyX7 4) := ⟨_, _, _, _, "ProphecyShop$Reader", coC_8, by decide, wg_69, Or.inl rfl, rfl, (fun h => by cases h), rfl⟩
theorem fl_Reader_24_8 : FL "ProphecyShop$Reader" 24 8 5 false (tyX7 5) := ⟨_, _, _, _, "ProphecyShop$Reader", coC_8, by decide, wg_72, Or.inl rfl, rfl, (fun h => by cases h), rfl⟩
theorem fg_Reader_21_8 : FLg "ProphecyShop$Reader" 21 8 4 := ⟨_, _, _, _, "ProphecyShop$Reader", coC_8, by decide, wg_69, Or.inl rfl⟩
theorem fl_SetupReader_68_7 : FL "ProphecyShop$SetupReader" 68 7 0 false (tyX6 0) := ⟨_, _, _, _, "ProphecyShop$Setup", coC_7, by decide, wg_180, Or.inl rfl, rfl, (fun h => by cases h), rfl⟩
theorem fl_SetupReader_71_7 : FL "ProphecyShop$SetupReader" 71 7 1 false (tyX6 1) := ⟨_, _, _, _, "ProphecyShop$Setup", coC_7, by decide, wg_182, Or.inl rfl, rfl, (fun h => by cases h), rfl⟩
theorem fl_SetupReader_74_7 : FL "ProphecyShop$SetupReader" 74 7 2 false (tyX6 2) := ⟨_, _, _, _, "ProphecyShop$Setup", coC_7, by decide, wg_185, Or.inl rfl, rfl, (fun h => by cases h), rfl⟩
theorem fl_SetupReader_77_7 : FL "ProphecyShop$SetupReader" 77 7 3 false (tyX6 3) := ⟨_, _, _, _, "ProphecyShop$Setup", coC_7, by decide, wg_188, Or.inl rfl, rfl, (fun h => by cases h), rfl⟩
theorem fl_SetupReader_80_7 : FL "ProphecyShop$SetupReader" 80 7 4 false (tyX6 4) := ⟨_, _, _, _, "ProphecyShop$Setup", coC_7, by decide, wg_191, Or.inl rfl, rfl, (fun h => by cases h), rfl⟩
theorem fg_Names_9_3 : FLg "ProphecyShop$Names" 9 3 0 := ⟨_, _, _, _, "ProphecyShop$Names", coC_3, by decide, wg_169, Or.inl rfl⟩
theorem fl_Names_15_3 : FL "ProphecyShop$Names" 15 3 1 false (tyX1 1) := ⟨_, _, _, _, "ProphecyShop$Names", coC_3, by decide, wg_170, Or.inl rfl, rfl, (fun h => by cases h), rfl⟩
theorem fg_SetupReader_106_7 : FLg "ProphecyShop$SetupReader" 106 7 7 := ⟨_, _, _, _, "ProphecyShop$Setup", coC_7, by decide, wg_202, Or.inl rfl⟩
theorem fg_SetupReader_26_7 : FLg "ProphecyShop$SetupReader" 26 7 5 := ⟨_, _, _, _, "ProphecyShop$Setup", coC_7, by decide, wg_194, Or.inl rfl⟩
theorem fg_SetupReader_36_7 : FLg "ProphecyShop$SetupReader" 36 7 6 := ⟨_, _, _, _, "ProphecyShop$Setup", coC_7, by decide, wg_198, Or.inl rfl⟩
theorem fg_SetupReader_53_8 : FLg "ProphecyShop$SetupReader" 53 8 4 := ⟨_, _, _, _, "ProphecyShop$SetupReader", coC_8, by decide, wg_70, Or.inr wg_71⟩
theorem fg_Shop_67_7 : FLg "ProphecyShop$Shop" 67 7 0 := ⟨_, _, _, _, "ProphecyShop$Setup", coC_7, by decide, wg_179, Or.inl rfl⟩
theorem fg_ProphecyShop_21_12 : FLg "ProphecyShop" 21 12 1 := ⟨_, _, _, _, "ProphecyShop", coC_12, by decide, wg_624, Or.inl rfl⟩
theorem fg_ProphecyShop_39_12 : FLg "ProphecyShop" 39 12 4 := ⟨_, _, _, _, "ProphecyShop", coC_12, by decide, wg_627, Or.inl rfl⟩
theorem fl_ProphecyShop_35_12 : FL "ProphecyShop" 35 12 3 false (tyX11 3) := ⟨_, _, _, _, "ProphecyShop", coC_12, by decide, wg_626, Or.inl rfl, rfl, (fun h => by cases h), rfl⟩
theorem fl_ProphecyShop_39_12 : FL "ProphecyShop" 39 12 4 false (tyX11 4) := ⟨_, _, _, _, "ProphecyShop", coC_12, by decide, wg_627, Or.inl rfl, rfl, (fun h => by cases h), rfl⟩
theorem fl_ProphecyShop_348_2 : FL "ProphecyShop" 348 2 1 false (tyX0 1) := ⟨_, _, _, _, "ProphecyShop$History", coC_2, by decide, wg_389, Or.inl rfl, rfl, (fun h => by cases h), rfl⟩
theorem fg_ProphecyShop_65_12 : FLg "ProphecyShop" 65 12 9 := ⟨_, _, _, _, "ProphecyShop", coC_12, by decide, wg_632, Or.inl rfl⟩
theorem fl_ProphecyShop_69_12 : FL "ProphecyShop" 69 12 10 false (tyX11 10) := ⟨_, _, _, _, "ProphecyShop", coC_12, by decide, wg_633, Or.inl rfl, rfl, (fun h => by cases h), rfl⟩
theorem fg_ProphecyShop_130_8 : FLg "ProphecyShop" 130 8 5 := ⟨_, _, _, _, "ProphecyShop$SetupReader", coC_8, by decide, wg_73, Or.inr wg_74⟩
theorem fl_ProphecyShop_73_12 : FL "ProphecyShop" 73 12 11 false (tyX11 11) := ⟨_, _, _, _, "ProphecyShop", coC_12, by decide, wg_634, Or.inl rfl, rfl, (fun h => by cases h), rfl⟩
theorem fg_ProphecyShop_195_9 : FLg "ProphecyShop" 195 9 5 := ⟨_, _, _, _, "ProphecyShop$Shop", coC_9, by decide, wg_334, Or.inl rfl⟩
theorem fg_ProphecyShop_264_4 : FLg "ProphecyShop" 264 4 1 := ⟨_, _, _, _, "ProphecyShop$Owl", coC_4, by decide, wg_310, Or.inl rfl⟩
theorem fg_ProphecyShop_210_5 : FLg "ProphecyShop" 210 5 3 := ⟨_, _, _, _, "ProphecyShop$Prophecy", coC_5, by decide, wg_262, Or.inl rfl⟩
theorem fg_ProphecyShop_237_9 : FLg "ProphecyShop" 237 9 8 := ⟨_, _, _, _, "ProphecyShop$Shop", coC_9, by decide, wg_338, Or.inl rfl⟩
theorem fg_Shop_103_7 : FLg "ProphecyShop$Shop" 103 7 7 := ⟨_, _, _, _, "ProphecyShop$Setup", coC_7, by decide, wg_203, Or.inl rfl⟩
theorem fl_Shop_116_5 : FL "ProphecyShop$Shop" 116 5 0 false (tyX3 0) := ⟨_, _, _, _, "ProphecyShop$Prophecy", coC_5, by decide, wg_252, Or.inl rfl, rfl, (fun h => by cases h), rfl⟩
theorem fl_Shop_119_5 : FL "ProphecyShop$Shop" 119 5 1 false (tyX3 1) := ⟨_, _, _, _, "ProphecyShop$Prophecy", coC_5, by decide, wg_255, Or.inl rfl, rfl, (fun h => by cases h), rfl⟩
theorem fl_Shop_122_5 : FL "ProphecyShop$Shop" 122 5 2 false (tyX3 2) := ⟨_, _, _, _, "ProphecyShop$Prophecy", coC_5, by decide, wg_258, Or.inl rfl, rfl, (fun h => by cases h), rfl⟩
theorem fl_Shop_125_5 : FL "ProphecyShop$Shop" 125 5 3 false (tyX3 3) := ⟨_, _, _, _, "ProphecyShop$Prophecy", coC_5, by decide, wg_261, Or.inl rfl, rfl, (fun h => by cases h), rfl⟩
theorem fl_Shop_128_5 : FL "ProphecyShop$Shop" 128 5 4 false (tyX3 4) := ⟨_, _, _, _, "ProphecyShop$Prophecy", coC_5, by decide, wg_264, Or.inl rfl, rfl, (fun h => by cases h), rfl⟩
theorem fl_Shop_131_5 : FL "ProphecyShop$Shop" 131 5 5 false (tyX3 5) := ⟨_, _, _, _, "ProphecyShop$Prophecy", coC_5, by decide, wg_267, Or.inl rfl, rfl, (fun h => by cases h), rfl⟩
theorem fl_Shop_134_5 : FL "ProphecyShop$Shop" 134 5 6 false (tyX3 6) := ⟨_, _, _, _, "ProphecyShop$Prophecy", coC_5, by decide, wg_270, Or.inl rfl, rfl, (fun h => by cases h), rfl⟩
theorem fg_ProphecyShop_348_2 : FLg "ProphecyShop" 348 2 1 := ⟨_, _, _, _, "ProphecyShop$History", coC_2, by decide, wg_389, Or.inl rfl⟩
theorem fg_Own_46_60 : FLg "ProphecyShopLaw$Own" 46 13 27 := ⟨_, _, _, _, "ProphecyShopLaw$Own", coC_13, by decide, wg_819, Or.inl rfl⟩
theorem fg_Own_37_60 : FLg "ProphecyShopLaw$Own" 37 13 24 := ⟨_, _, _, _, "ProphecyShopLaw$Own", coC_13, by decide, wg_813, Or.inl rfl⟩
theorem fg_Own_82_60 : FLg "ProphecyShopLaw$Own" 82 13 3 := ⟨_, _, _, _, "ProphecyShopLaw$Own", coC_13, by decide, wg_772, Or.inl rfl⟩
theorem fg_Own_85_60 : FLg "ProphecyShopLaw$Own" 85 13 4 := ⟨_, _, _, _, "ProphecyShopLaw$Own", coC_13, by decide, wg_774, Or.inl rfl⟩
theorem fg_Own_49_60 : FLg "ProphecyShopLaw$Own" 49 13 28 := ⟨_, _, _, _, "ProphecyShopLaw$Own", coC_13, by decide, wg_821, Or.inl rfl⟩
theorem fg_Own_88_60 : FLg "ProphecyShopLaw$Own" 88 13 5 := ⟨_, _, _, _, "ProphecyShopLaw$Own", coC_13, by decide, wg_776, Or.inl rfl⟩
theorem fg_Own_52_60 : FLg "ProphecyShopLaw$Own" 52 13 29 := ⟨_, _, _, _, "ProphecyShopLaw$Own", coC_13, by decide, wg_823, Or.inl rfl⟩
theorem fg_Own_79_60 : FLg "ProphecyShopLaw$Own" 79 13 2 := ⟨_, _, _, _, "ProphecyShopLaw$Own", coC_13, by decide, wg_770, Or.inl rfl⟩
theorem fg_Own_72_60 : FLg "ProphecyShopLaw$Own" 72 13 0 := ⟨_, _, _, _, "ProphecyShopLaw$Own", coC_13, by decide, wg_766, Or.inl rfl⟩
theorem fg_Own_65_60 : FLg "ProphecyShopLaw$Own" 65 13 33 := ⟨_, _, _, _, "ProphecyShopLaw$Own", coC_13, by decide, wg_831, Or.inl rfl⟩
theorem fg_Own_106_60 : FLg "ProphecyShopLaw$Own" 106 13 11 := ⟨_, _, _, _, "ProphecyShopLaw$Own", coC_13, by decide, wg_788, Or.inl rfl⟩
theorem fg_Own_68_60 : FLg "ProphecyShopLaw$Own" 68 13 34 := ⟨_, _, _, _, "ProphecyShopLaw$Own", coC_13, by decide, wg_832, Or.inl rfl⟩
theorem fl_Own_106_60 : FL "ProphecyShopLaw$Own" 106 13 11 false (tyX12 11) := ⟨_, _, _, _, "ProphecyShopLaw$Own", coC_13, by decide, wg_788, Or.inl rfl, rfl, (fun h => by cases h), rfl⟩
theorem fg_Own_103_60 : FLg "ProphecyShopLaw$Own" 103 13 10 := ⟨_, _, _, _, "ProphecyShopLaw$Own", coC_13, by decide, wg_786, Or.inl rfl⟩
theorem fg_Own_34_60 : FLg "ProphecyShopLaw$Own" 34 13 23 := ⟨_, _, _, _, "ProphecyShopLaw$Own", coC_13, by decide, wg_811, Or.inl rfl⟩
theorem fg_Own_40_60 : FLg "ProphecyShopLaw$Own" 40 13 25 := ⟨_, _, _, _, "ProphecyShopLaw$Own", coC_13, by decide, wg_815, Or.inl rfl⟩
theorem fg_Own_61_60 : FLg "ProphecyShopLaw$Own" 61 13 32 := ⟨_, _, _, _, "ProphecyShopLaw$Own", coC_13, by decide, wg_829, Or.inl rfl⟩
theorem fg_Own_100_60 : FLg "ProphecyShopLaw$Own" 100 13 9 := ⟨_, _, _, _, "ProphecyShopLaw$Own", coC_13, by decide, wg_784, Or.inl rfl⟩
theorem fg_Own_19_60 : FLg "ProphecyShopLaw$Own" 19 13 18 := ⟨_, _, _, _, "ProphecyShopLaw$Own", coC_13, by decide, wg_802, Or.inl rfl⟩
theorem fl_Own_88_60 : FL "ProphecyShopLaw$Own" 88 13 5 false (tyX12 5) := ⟨_, _, _, _, "ProphecyShopLaw$Own", coC_13, by decide, wg_776, Or.inl rfl, rfl, (fun h => by cases h), rfl⟩
theorem fg_Own_43_60 : FLg "ProphecyShopLaw$Own" 43 13 26 := ⟨_, _, _, _, "ProphecyShopLaw$Own", coC_13, by decide, wg_817, Or.inl rfl⟩
theorem fg_Own_25_60 : FLg "ProphecyShopLaw$Own" 25 13 20 := ⟨_, _, _, _, "ProphecyShopLaw$Own", coC_13, by decide, wg_806, Or.inl rfl⟩
theorem fg_Own_7_60 : FLg "ProphecyShopLaw$Own" 7 13 15 := ⟨_, _, _, _, "ProphecyShopLaw$Own", coC_13, by decide, wg_796, Or.inl rfl⟩
theorem fg_Own_22_60 : FLg "ProphecyShopLaw$Own" 22 13 19 := ⟨_, _, _, _, "ProphecyShopLaw$Own", coC_13, by decide, wg_804, Or.inl rfl⟩
theorem fg_Own_28_60 : FLg "ProphecyShopLaw$Own" 28 13 21 := ⟨_, _, _, _, "ProphecyShopLaw$Own", coC_13, by decide, wg_808, Or.inl rfl⟩
theorem fg_Own_76_60 : FLg "ProphecyShopLaw$Own" 76 13 1 := ⟨_, _, _, _, "ProphecyShopLaw$Own", coC_13, by decide, wg_768, Or.inl rfl⟩
theorem fg_Own_109_60 : FLg "ProphecyShopLaw$Own" 109 13 12 := ⟨_, _, _, _, "ProphecyShopLaw$Own", coC_13, by decide, wg_790, Or.inl rfl⟩
theorem fg_Own_58_60 : FLg "ProphecyShopLaw$Own" 58 13 31 := ⟨_, _, _, _, "ProphecyShopLaw$Own", coC_13, by decide, wg_827, Or.inl rfl⟩
theorem fg_Own_55_60 : FLg "ProphecyShopLaw$Own" 55 13 30 := ⟨_, _, _, _, "ProphecyShopLaw$Own", coC_13, by decide, wg_825, Or.inl rfl⟩
theorem fg_Own_112_60 : FLg "ProphecyShopLaw$Own" 112 13 13 := ⟨_, _, _, _, "ProphecyShopLaw$Own", coC_13, by decide, wg_792, Or.inl rfl⟩
theorem fl_Own_112_60 : FL "ProphecyShopLaw$Own" 112 13 13 false (tyX12 13) := ⟨_, _, _, _, "ProphecyShopLaw$Own", coC_13, by decide, wg_792, Or.inl rfl, rfl, (fun h => by cases h), rfl⟩
theorem fl_Own_109_60 : FL "ProphecyShopLaw$Own" 109 13 12 false (tyX12 12) := ⟨_, _, _, _, "ProphecyShopLaw$Own", coC_13, by decide, wg_790, Or.inl rfl, rfl, (fun h => by cases h), rfl⟩
theorem fg_Own_13_60 : FLg "ProphecyShopLaw$Own" 13 13 16 := ⟨_, _, _, _, "ProphecyShopLaw$Own", coC_13, by decide, wg_798, Or.inl rfl⟩
theorem fg_Own_31_60 : FLg "ProphecyShopLaw$Own" 31 13 22 := ⟨_, _, _, _, "ProphecyShopLaw$Own", coC_13, by decide, wg_809, Or.inl rfl⟩
theorem fg_Own_16_60 : FLg "ProphecyShopLaw$Own" 16 13 17 := ⟨_, _, _, _, "ProphecyShopLaw$Own", coC_13, by decide, wg_800, Or.inl rfl⟩
theorem fl_Own_72_60 : FL "ProphecyShopLaw$Own" 72 13 0 false (tyX12 0) := ⟨_, _, _, _, "ProphecyShopLaw$Own", coC_13, by decide, wg_766, Or.inl rfl, rfl, (fun h => by cases h), rfl⟩
theorem fg_Own_115_60 : FLg "ProphecyShopLaw$Own" 115 13 14 := ⟨_, _, _, _, "ProphecyShopLaw$Own", coC_13, by decide, wg_794, Or.inl rfl⟩
theorem fl_Own_115_60 : FL "ProphecyShopLaw$Own" 115 13 14 false (tyX12 14) := ⟨_, _, _, _, "ProphecyShopLaw$Own", coC_13, by decide, wg_794, Or.inl rfl, rfl, (fun h => by cases h), rfl⟩
theorem hd_Prophecy_copyFrom : hd0 m_Prophecy_copyFrom 1 := hd0_of (by decide +kernel) (by decide +kernel) (by decide +kernel) rfl rfl wg_755
theorem lk_Shop_83 : LV "ProphecyShop$Shop" 83 5 1 m_Prophecy_copyFrom := ⟨hd_Prophecy_copyFrom, rfl, ⟨_, rfl, rfl⟩, wg_752, wg_753, wg_754, wg_10⟩
theorem hd_Owl_copyFrom : hd0 m_Owl_copyFrom 1 := hd0_of (by decide +kernel) (by decide +kernel) (by decide +kernel) rfl rfl wg_759
theorem lk_Shop_87 : LV "ProphecyShop$Shop" 87 4 1 m_Owl_copyFrom := ⟨hd_Owl_copyFrom, rfl, ⟨_, rfl, rfl⟩, wg_756, wg_757, wg_758, wg_11⟩
theorem hd_History_forgetOldest : hd0 m_History_forgetOldest 0 := hd0_of (by decide +kernel) (by decide +kernel) (by decide +kernel) rfl rfl wg_1607
theorem lk_History_24 : LV "ProphecyShop$History" 24 2 0 m_History_forgetOldest := ⟨hd_History_forgetOldest, rfl, ⟨_, rfl, rfl⟩, wg_1604, wg_1606, ws_15, wg_12⟩
theorem hd_Shop_copyFrom : hd0 m_Shop_copyFrom 1 := hd0_of (by decide +kernel) (by decide +kernel) (by decide +kernel) rfl rfl wg_748
theorem lk_History_27 : LV "ProphecyShop$History" 27 9 1 m_Shop_copyFrom := ⟨hd_Shop_copyFrom, rfl, ⟨_, rfl, rfl⟩, wg_745, wg_746, wg_747, wg_9⟩
theorem hd_Text_put : hd0 m_Text_put 1 := hd0_of (by decide +kernel) (by decide +kernel) (by decide +kernel) rfl rfl wg_448
theorem lk_Text_19 : LV "ProphecyShop$Text" 19 11 1 m_Text_put := ⟨hd_Text_put, rfl, ⟨_, rfl, rfl⟩, wg_1700, wg_446, wg_447, wg_2⟩
theorem hd_P_isWithin : hd0 m_P_isWithin 3 := hd0_of (by decide +kernel) (by decide +kernel) (by decide +kernel) rfl rfl wg_523
theorem lk_Shop_109 : LSN "ProphecyShop$Shop" 109 3 m_P_isWithin := ⟨hd_P_isWithin, rfl, "ProphecyShop", wt_1593, wg_522, wg_1⟩
theorem hd_Prophecy_isOverdue : hd0 m_Prophecy_isOverdue 1 := hd0_of (by decide +kernel) (by decide +kernel) (by decide +kernel) rfl rfl wg_1449
theorem lk_Shop_238 : LV "ProphecyShop$Shop" 238 5 1 m_Prophecy_isOverdue := ⟨hd_Prophecy_isOverdue, rfl, ⟨_, rfl, rfl⟩, wg_1446, wg_1447, wg_1448, wg_10⟩
theorem hd_Prophecy_decide : hd0 m_Prophecy_decide 2 := hd0_of (by decide +kernel) (by decide +kernel) (by decide +kernel) rfl rfl wg_1516
theorem lk_Shop_158 : LV "ProphecyShop$Shop" 158 5 2 m_Prophecy_decide := ⟨hd_Prophecy_decide, rfl, ⟨_, rfl, rfl⟩, wg_1513, wg_1514, wg_1515, wg_10⟩
theorem hd_Owl_fly : hd0 m_Owl_fly 0 := hd0_of (by decide +kernel) (by decide +kernel) (by decide +kernel) rfl rfl wg_1524
theorem lk_Shop_219 : LV "ProphecyShop$Shop" 219 4 0 m_Owl_fly := ⟨hd_Owl_fly, rfl, ⟨_, rfl, rfl⟩, wg_1521, wg_1522, wg_1523, wg_11⟩
theorem hd_Owl_handOver : hd0 m_Owl_handOver 0 := hd0_of (by decide +kernel) (by decide +kernel) (by decide +kernel) rfl rfl wg_1528
theorem lk_Shop_222 : LV "ProphecyShop$Shop" 222 4 0 m_Owl_handOver := ⟨hd_Owl_handOver, rfl, ⟨_, rfl, rfl⟩, wg_1525, wg_1526, wg_1527, wg_11⟩
theorem hd_Shop_addCoins : hd0 m_Shop_addCoins 2 := hd0_of (by decide +kernel) (by decide +kernel) (by decide +kernel) rfl rfl wg_1532
theorem lk_Shop_143 : LV "ProphecyShop$Shop" 143 9 2 m_Shop_addCoins := ⟨hd_Shop_addCoins, rfl, ⟨_, rfl, rfl⟩, wg_1529, wg_1531, ws_9, wg_9⟩
theorem hd_Shop_hasSold : hd0 m_Shop_hasSold 1 := hd0_of (by decide +kernel) (by decide +kernel) (by decide +kernel) rfl rfl wg_1170
theorem lk_Shop_90 : LV "ProphecyShop$Shop" 90 9 1 m_Shop_hasSold := ⟨hd_Shop_hasSold, rfl, ⟨_, rfl, rfl⟩, wg_1194, wg_1168, wg_1169, wg_9⟩
theorem hd_Shop_refundFor : hd0 m_Shop_refundFor 1 := hd0_of (by decide +kernel) (by decide +kernel) (by decide +kernel) rfl rfl wg_1246
theorem lk_Shop_174 : LV "ProphecyShop$Shop" 174 9 1 m_Shop_refundFor := ⟨hd_Shop_refundFor, rfl, ⟨_, rfl, rfl⟩, wg_1275, wg_1244, wg_1245, wg_9⟩
theorem hd_Shop_owlWith : hd0 m_Shop_owlWith 1 := hd0_of (by decide +kernel) (by decide +kernel) (by decide +kernel) rfl rfl wg_1325
theorem lk_Shop_202 : LV "ProphecyShop$Shop" 202 9 1 m_Shop_owlWith := ⟨hd_Shop_owlWith, rfl, ⟨_, rfl, rfl⟩, wg_1544, wg_1323, wg_1324, wg_9⟩
theorem hd_Names_has : hd0 m_Names_has 1 := hd0_of (by decide +kernel) (by decide +kernel) (by decide +kernel) rfl rfl wg_618
theorem lk_Setup_60 : LV "ProphecyShop$Setup" 60 3 1 m_Names_has := ⟨hd_Names_has, rfl, ⟨_, rfl, rfl⟩, wg_615, wg_616, wg_617, wg_8⟩
theorem hd_Setup_flightDays : hd0 m_Setup_flightDays 2 := hd0_of (by decide +kernel) (by decide +kernel) (by decide +kernel) rfl rfl wg_1552
theorem lk_Shop_206 : LV "ProphecyShop$Shop" 206 7 2 m_Setup_flightDays := ⟨hd_Setup_flightDays, rfl, ⟨_, rfl, rfl⟩, wg_1549, wg_1550, wg_1551, wg_7⟩
theorem hd_Owl_leaveFor : hd0 m_Owl_leaveFor 3 := hd0_of (by decide +kernel) (by decide +kernel) (by decide +kernel) rfl rfl wg_1556
theorem lk_Shop_209 : LV "ProphecyShop$Shop" 209 4 3 m_Owl_leaveFor := ⟨hd_Owl_leaveFor, rfl, ⟨_, rfl, rfl⟩, wg_1553, wg_1554, wg_1555, wg_11⟩
theorem hd_Shop_requestAt : hd0 m_Shop_requestAt 1 := hd0_of (by decide +kernel) (by decide +kernel) (by decide +kernel) rfl rfl wg_1494
theorem lk_Shop_181 : LV "ProphecyShop$Shop" 181 9 1 m_Shop_requestAt := ⟨hd_Shop_requestAt, rfl, ⟨_, rfl, rfl⟩, wg_1537, wg_1492, wg_1493, wg_9⟩
theorem hd_Shop_prophecyWith : hd0 m_Shop_prophecyWith 1 := hd0_of (by decide +kernel) (by decide +kernel) (by decide +kernel) rfl rfl wg_1193
theorem lk_Shop_184 : LV "ProphecyShop$Shop" 184 9 1 m_Shop_prophecyWith := ⟨hd_Shop_prophecyWith, rfl, ⟨_, rfl, rfl⟩, wg_1538, wg_1191, wg_1192, wg_9⟩
theorem hd_Shop_answerTo : hd0 m_Shop_answerTo 1 := hd0_of (by decide +kernel) (by decide +kernel) (by decide +kernel) rfl rfl wg_1274
theorem lk_Shop_188 : LV "ProphecyShop$Shop" 188 9 1 m_Shop_answerTo := ⟨hd_Shop_answerTo, rfl, ⟨_, rfl, rfl⟩, wg_1539, wg_1272, wg_1273, wg_9⟩
theorem hd_Shop_removeFirstRequest : hd0 m_Shop_removeFirstRequest 0 := hd0_of (by decide +kernel) (by decide +kernel) (by decide +kernel) rfl rfl wg_1560
theorem lk_Shop_199 : LV "ProphecyShop$Shop" 199 9 0 m_Shop_removeFirstRequest := ⟨hd_Shop_removeFirstRequest, rfl, ⟨_, rfl, rfl⟩, wg_1557, wg_1559, ws_13, wg_9⟩
theorem hd_Shop_firstIdleOwl : hd0 m_Shop_firstIdleOwl 0 := hd0_of (by decide +kernel) (by decide +kernel) (by decide +kernel) rfl rfl wg_1543
theorem lk_Shop_191 : LV "ProphecyShop$Shop" 191 9 0 m_Shop_firstIdleOwl := ⟨hd_Shop_firstIdleOwl, rfl, ⟨_, rfl, rfl⟩, wg_1540, wg_1542, ws_11, wg_9⟩
theorem hd_Shop_pay : hd0 m_Shop_pay 2 := hd0_of (by decide +kernel) (by decide +kernel) (by decide +kernel) rfl rfl wg_1548
theorem lk_Shop_195 : LV "ProphecyShop$Shop" 195 9 2 m_Shop_pay := ⟨hd_Shop_pay, rfl, ⟨_, rfl, rfl⟩, wg_1545, wg_1547, ws_12, wg_9⟩
theorem hd_Shop_decideOverdue : hd0 m_Shop_decideOverdue 0 := hd0_of (by decide +kernel) (by decide +kernel) (by decide +kernel) rfl rfl wg_1512
theorem lk_Shop_225 : LV "ProphecyShop$Shop" 225 9 0 m_Shop_decideOverdue := ⟨hd_Shop_decideOverdue, rfl, ⟨_, rfl, rfl⟩, wg_1509, wg_1511, ws_7, wg_9⟩
theorem hd_Shop_moveOwls : hd0 m_Shop_moveOwls 0 := hd0_of (by decide +kernel) (by decide +kernel) (by decide +kernel) rfl rfl wg_1520
theorem lk_Shop_228 : LV "ProphecyShop$Shop" 228 9 0 m_Shop_moveOwls := ⟨hd_Shop_moveOwls, rfl, ⟨_, rfl, rfl⟩, wg_1517, wg_1519, ws_8, wg_9⟩
theorem hd_Shop_handleFirstRequest : hd0 m_Shop_handleFirstRequest 0 := hd0_of (by decide +kernel) (by decide +kernel) (by decide +kernel) rfl rfl wg_1536
theorem lk_Shop_234 : LV "ProphecyShop$Shop" 234 9 0 m_Shop_handleFirstRequest := ⟨hd_Shop_handleFirstRequest, rfl, ⟨_, rfl, rfl⟩, wg_1533, wg_1535, ws_10, wg_9⟩
theorem hd_Shop_faultOfDays : hd0 m_Shop_faultOfDays 1 := hd0_of (by decide +kernel) (by decide +kernel) (by decide +kernel) rfl rfl wg_1661
theorem lk_ProphecyShop_324 : LV "ProphecyShop" 324 9 1 m_Shop_faultOfDays := ⟨hd_Shop_faultOfDays, rfl, ⟨_, rfl, rfl⟩, wg_1658, wg_1659, wg_1660, wg_9⟩
theorem hd_P_throwFor : hd0 m_P_throwFor 1 := hd0_of (by decide +kernel) (by decide +kernel) (by decide +kernel) rfl rfl wg_1597
theorem lk_ProphecyShop_312 : m_P_throwFor.2.2.2.2 = [] ∧ LST "ProphecyShop" 312 1 m_P_throwFor := ⟨rfl, hd_P_throwFor, wg_1595, wg_1596, wg_1⟩
theorem hd_History_record : hd0 m_History_record 1 := hd0_of (by decide +kernel) (by decide +kernel) (by decide +kernel) rfl rfl wg_1603
theorem lk_ProphecyShop_138 : LV "ProphecyShop" 138 2 1 m_History_record := ⟨hd_History_record, rfl, ⟨_, rfl, rfl⟩, wg_1600, wg_1601, wg_1602, wg_12⟩
theorem hd_Shop_passDays : hd0 m_Shop_passDays 1 := hd0_of (by decide +kernel) (by decide +kernel) (by decide +kernel) rfl rfl wg_1508
theorem lk_ProphecyShop_300 : LV "ProphecyShop" 300 9 1 m_Shop_passDays := ⟨hd_Shop_passDays, rfl, ⟨_, rfl, rfl⟩, wg_1505, wg_1506, wg_1507, wg_9⟩
theorem lk_ProphecyShop_240 : LV "ProphecyShop" 240 9 1 m_Shop_hasSold := ⟨hd_Shop_hasSold, rfl, ⟨_, rfl, rfl⟩, wg_1167, wg_1168, wg_1169, wg_9⟩
theorem hd_P_throwIfMissing : hd0 m_P_throwIfMissing 1 := hd0_of (by decide +kernel) (by decide +kernel) (by decide +kernel) rfl rfl wg_1173
theorem lk_ProphecyShop_178 : m_P_throwIfMissing.2.2.2.2 = [] ∧ LST "ProphecyShop" 178 1 m_P_throwIfMissing := ⟨rfl, hd_P_throwIfMissing, wg_1171, wg_1172, wg_1⟩
theorem lk_ProphecyShop_299 : LV "ProphecyShop" 299 9 1 m_Shop_prophecyWith := ⟨hd_Shop_prophecyWith, rfl, ⟨_, rfl, rfl⟩, wg_1190, wg_1191, wg_1192, wg_9⟩
theorem hd_P_prophecyWith : hd0 m_P_prophecyWith 1 := hd0_of (by decide +kernel) (by decide +kernel) (by decide +kernel) rfl rfl wg_1166
theorem lk_ProphecyShop_198 : LV "ProphecyShop" 198 12 1 m_P_prophecyWith := ⟨hd_P_prophecyWith, rfl, ⟨_, rfl, rfl⟩, wg_1163, wg_1165, ws_6, wg_1⟩
theorem hd_Text_bytesIn : hd0 m_Text_bytesIn 1 := hd0_of (by decide +kernel) (by decide +kernel) (by decide +kernel) rfl rfl wg_1693
theorem lk_ProphecyShop_101 : m_Text_bytesIn.2.2.2.2 = [] ∧ LST "ProphecyShop" 101 1 m_Text_bytesIn := ⟨rfl, hd_Text_bytesIn, wg_1691, wg_1692, wg_2⟩
theorem hd_Text_size : hd0 m_Text_size 0 := hd0_of (by decide +kernel) (by decide +kernel) (by decide +kernel) rfl rfl wg_474
theorem lk_ProphecyShop_105 : LV "ProphecyShop" 105 11 0 m_Text_size := ⟨hd_Text_size, rfl, ⟨_, rfl, rfl⟩, wg_1694, wg_472, wg_473, wg_2⟩
theorem hd_Text_putBytesOf : hd0 m_Text_putBytesOf 1 := hd0_of (by decide +kernel) (by decide +kernel) (by decide +kernel) rfl rfl wg_1699
theorem lk_ProphecyShop_115 : LV "ProphecyShop" 115 11 1 m_Text_putBytesOf := ⟨hd_Text_putBytesOf, rfl, ⟨_, rfl, rfl⟩, wg_1696, wg_1697, wg_1698, wg_2⟩
theorem hd_Shop_requestsBefore : hd0 m_Shop_requestsBefore 1 := hd0_of (by decide +kernel) (by decide +kernel) (by decide +kernel) rfl rfl wg_1258
theorem lk_Shop_178 : LV "ProphecyShop$Shop" 178 9 1 m_Shop_requestsBefore := ⟨hd_Shop_requestsBefore, rfl, ⟨_, rfl, rfl⟩, wg_1649, wg_1256, wg_1257, wg_9⟩
theorem hd_Shop_faultOfRequest : hd0 m_Shop_faultOfRequest 1 := hd0_of (by decide +kernel) (by decide +kernel) (by decide +kernel) rfl rfl wg_1648
theorem lk_ProphecyShop_318 : LV "ProphecyShop" 318 9 1 m_Shop_faultOfRequest := ⟨hd_Shop_faultOfRequest, rfl, ⟨_, rfl, rfl⟩, wg_1645, wg_1646, wg_1647, wg_9⟩
theorem hd_Shop_addRequest : hd0 m_Shop_addRequest 1 := hd0_of (by decide +kernel) (by decide +kernel) (by decide +kernel) rfl rfl wg_1653
theorem lk_ProphecyShop_321 : LV "ProphecyShop" 321 9 1 m_Shop_addRequest := ⟨hd_Shop_addRequest, rfl, ⟨_, rfl, rfl⟩, wg_1650, wg_1651, wg_1652, wg_9⟩
theorem lk_ProphecyShop_118 : m_P_isWithin.2.2.2.2 = [] ∧ LST "ProphecyShop" 118 3 m_P_isWithin := ⟨rfl, hd_P_isWithin, wg_1502, wg_522, wg_1⟩
theorem lk_ProphecyShop_296 : LV "ProphecyShop" 296 9 1 m_Shop_copyFrom := ⟨hd_Shop_copyFrom, rfl, ⟨_, rfl, rfl⟩, wg_1504, wg_746, wg_747, wg_9⟩
theorem hd_Setup_firstCoinsOf : hd0 m_Setup_firstCoinsOf 1 := hd0_of (by decide +kernel) (by decide +kernel) (by decide +kernel) rfl rfl wg_614
theorem lk_Setup_64 : LV "ProphecyShop$Setup" 64 7 1 m_Setup_firstCoinsOf := ⟨hd_Setup_firstCoinsOf, rfl, ⟨_, rfl, rfl⟩, wg_1430, wg_612, wg_613, wg_7⟩
theorem hd_Setup_sumOfCoins : hd0 m_Setup_sumOfCoins 0 := hd0_of (by decide +kernel) (by decide +kernel) (by decide +kernel) rfl rfl wg_1429
theorem lk_ProphecyShop_281 : LV "ProphecyShop" 281 7 0 m_Setup_sumOfCoins := ⟨hd_Setup_sumOfCoins, rfl, ⟨_, rfl, rfl⟩, wg_1426, wg_1427, wg_1428, wg_7⟩
theorem hd_Shop_sumOfCoins : hd0 m_Shop_sumOfCoins 0 := hd0_of (by decide +kernel) (by decide +kernel) (by decide +kernel) rfl rfl wg_1434
theorem lk_ProphecyShop_284 : LV "ProphecyShop" 284 9 0 m_Shop_sumOfCoins := ⟨hd_Shop_sumOfCoins, rfl, ⟨_, rfl, rfl⟩, wg_1431, wg_1432, wg_1433, wg_9⟩
theorem hd_Shop_sumOfRefunds : hd0 m_Shop_sumOfRefunds 0 := hd0_of (by decide +kernel) (by decide +kernel) (by decide +kernel) rfl rfl wg_1441
theorem lk_ProphecyShop_290 : LV "ProphecyShop" 290 9 0 m_Shop_sumOfRefunds := ⟨hd_Shop_sumOfRefunds, rfl, ⟨_, rfl, rfl⟩, wg_1438, wg_1439, wg_1440, wg_9⟩
theorem hd_Shop_countOverdue : hd0 m_Shop_countOverdue 0 := hd0_of (by decide +kernel) (by decide +kernel) (by decide +kernel) rfl rfl wg_1445
theorem lk_ProphecyShop_293 : LV "ProphecyShop" 293 9 0 m_Shop_countOverdue := ⟨hd_Shop_countOverdue, rfl, ⟨_, rfl, rfl⟩, wg_1442, wg_1443, wg_1444, wg_9⟩
theorem hd_Shop_countWithState : hd0 m_Shop_countWithState 1 := hd0_of (by decide +kernel) (by decide +kernel) (by decide +kernel) rfl rfl wg_1353
theorem lk_ProphecyShop_269 : LV "ProphecyShop" 269 9 1 m_Shop_countWithState := ⟨hd_Shop_countWithState, rfl, ⟨_, rfl, rfl⟩, wg_1350, wg_1351, wg_1352, wg_9⟩
theorem lk_ProphecyShop_249 : LV "ProphecyShop" 249 9 1 m_Shop_answerTo := ⟨hd_Shop_answerTo, rfl, ⟨_, rfl, rfl⟩, wg_1271, wg_1272, wg_1273, wg_9⟩
theorem lk_Shop_98 : LV "ProphecyShop$Shop" 98 3 1 m_Names_has := ⟨hd_Names_has, rfl, ⟨_, rfl, rfl⟩, wg_1592, wg_616, wg_617, wg_8⟩
theorem hd_Shop_isNoted : hd0 m_Shop_isNoted 3 := hd0_of (by decide +kernel) (by decide +kernel) (by decide +kernel) rfl rfl wg_1472
theorem lk_Shop_151 : LV "ProphecyShop$Shop" 151 9 3 m_Shop_isNoted := ⟨hd_Shop_isNoted, rfl, ⟨_, rfl, rfl⟩, wg_1628, wg_1470, wg_1471, wg_9⟩
theorem hd_Prophecy_isAbout : hd0 m_Prophecy_isAbout 2 := hd0_of (by decide +kernel) (by decide +kernel) (by decide +kernel) rfl rfl wg_1636
theorem lk_Shop_154 : LV "ProphecyShop$Shop" 154 5 2 m_Prophecy_isAbout := ⟨hd_Prophecy_isAbout, rfl, ⟨_, rfl, rfl⟩, wg_1633, wg_1634, wg_1635, wg_10⟩
theorem hd_Shop_faultOfHappening : hd0 m_Shop_faultOfHappening 2 := hd0_of (by decide +kernel) (by decide +kernel) (by decide +kernel) rfl rfl wg_1627
theorem lk_ProphecyShop_309 : LV "ProphecyShop" 309 9 2 m_Shop_faultOfHappening := ⟨hd_Shop_faultOfHappening, rfl, ⟨_, rfl, rfl⟩, wg_1624, wg_1625, wg_1626, wg_9⟩
theorem hd_Shop_noteHappening : hd0 m_Shop_noteHappening 2 := hd0_of (by decide +kernel) (by decide +kernel) (by decide +kernel) rfl rfl wg_1632
theorem lk_ProphecyShop_315 : LV "ProphecyShop" 315 9 2 m_Shop_noteHappening := ⟨hd_Shop_noteHappening, rfl, ⟨_, rfl, rfl⟩, wg_1629, wg_1630, wg_1631, wg_9⟩
theorem lk_ProphecyShop_174 : LV "ProphecyShop" 174 3 1 m_Names_has := ⟨hd_Names_has, rfl, ⟨_, rfl, rfl⟩, wg_1313, wg_616, wg_617, wg_8⟩
theorem lk_ProphecyShop_189 : LV "ProphecyShop" 189 9 3 m_Shop_isNoted := ⟨hd_Shop_isNoted, rfl, ⟨_, rfl, rfl⟩, wg_1469, wg_1470, wg_1471, wg_9⟩
theorem lk_ProphecyShop_255 : LV "ProphecyShop" 255 9 1 m_Shop_owlWith := ⟨hd_Shop_owlWith, rfl, ⟨_, rfl, rfl⟩, wg_1322, wg_1323, wg_1324, wg_9⟩
theorem hd_Shop_countHappenings : hd0 m_Shop_countHappenings 2 := hd0_of (by decide +kernel) (by decide +kernel) (by decide +kernel) rfl rfl wg_1464
theorem lk_Shop_147 : LV "ProphecyShop$Shop" 147 9 2 m_Shop_countHappenings := ⟨hd_Shop_countHappenings, rfl, ⟨_, rfl, rfl⟩, wg_1486, wg_1462, wg_1463, wg_9⟩
theorem hd_Shop_countHappeningsIn : hd0 m_Shop_countHappeningsIn 1 := hd0_of (by decide +kernel) (by decide +kernel) (by decide +kernel) rfl rfl wg_1485
theorem lk_ProphecyShop_192 : LV "ProphecyShop" 192 9 1 m_Shop_countHappeningsIn := ⟨hd_Shop_countHappeningsIn, rfl, ⟨_, rfl, rfl⟩, wg_1482, wg_1483, wg_1484, wg_9⟩
theorem lk_Reader_34 : LV "ProphecyShop$Reader" 34 11 0 m_Text_size := ⟨hd_Text_size, rfl, ⟨_, rfl, rfl⟩, wg_471, wg_472, wg_473, wg_2⟩
theorem hd_Text_at : hd0 m_Text_at 1 := hd0_of (by decide +kernel) (by decide +kernel) (by decide +kernel) rfl rfl wg_478
theorem lk_Reader_40 : LV "ProphecyShop$Reader" 40 11 1 m_Text_at := ⟨hd_Text_at, rfl, ⟨_, rfl, rfl⟩, wg_475, wg_476, wg_477, wg_2⟩
theorem hd_Reader_isBlank : hd0 m_Reader_isBlank 1 := hd0_of (by decide +kernel) (by decide +kernel) (by decide +kernel) rfl rfl wg_481
theorem lk_Reader_44 : m_Reader_isBlank.2.2.2.2 = [] ∧ LST "ProphecyShop$Reader" 44 1 m_Reader_isBlank := ⟨rfl, hd_Reader_isBlank, wg_479, wg_480, wg_3⟩
theorem hd_Reader_kindOf : hd0 m_Reader_kindOf 1 := hd0_of (by decide +kernel) (by decide +kernel) (by decide +kernel) rfl rfl wg_484
theorem lk_Reader_48 : m_Reader_kindOf.2.2.2.2 = [] ∧ LST "ProphecyShop$Reader" 48 1 m_Reader_kindOf := ⟨rfl, hd_Reader_kindOf, wg_482, wg_483, wg_3⟩
theorem hd_Reader_next : hd0 m_Reader_next 0 := hd0_of (by decide +kernel) (by decide +kernel) (by decide +kernel) rfl rfl wg_470
theorem lk_Reader_31_8 : LU "ProphecyShop$Reader" 31 8 0 m_Reader_next := ⟨hd_Reader_next, rfl, _, ⟨"ProphecyShop$Reader", "next", "()V"⟩, rfl, rfl, wg_467, wg_1711, wx_0, wg_469, wg_3, by decide +kernel⟩
theorem hd_String_length_8abf5 : hd0 m_String_length_8abf5 0 := hd0_of (by decide +kernel) (by decide +kernel) (by decide +kernel) rfl rfl wg_400
theorem lk_Reader_51 : LV "ProphecyShop$Reader" 51 14 0 m_String_length_8abf5 := ⟨hd_String_length_8abf5, rfl, ⟨_, rfl, rfl⟩, wg_502, wg_398, wg_399, wg_13⟩
theorem hd_String_charAt_5068e : hd0 m_String_charAt_5068e 1 := hd0_of (by decide +kernel) (by decide +kernel) (by decide +kernel) rfl rfl wg_410
theorem lk_Reader_56 : LV "ProphecyShop$Reader" 56 14 1 m_String_charAt_5068e := ⟨hd_String_charAt_5068e, rfl, ⟨_, rfl, rfl⟩, wg_503, wg_408, wg_409, wg_13⟩
theorem hd_Reader_sees : hd0 m_Reader_sees 1 := hd0_of (by decide +kernel) (by decide +kernel) (by decide +kernel) rfl rfl wg_501
theorem lk_Reader_68_8 : LU "ProphecyShop$Reader" 68 8 1 m_Reader_sees := ⟨hd_Reader_sees, rfl, _, ⟨"ProphecyShop$Reader", "sees", "(Ljava/lang/String;)Z"⟩, rfl, rfl, wg_496, wg_498, wg_500, wg_497, wg_3, by decide +kernel⟩
theorem hd_Reader_fail : hd0 m_Reader_fail 1 := hd0_of (by decide +kernel) (by decide +kernel) (by decide +kernel) rfl rfl wg_509
theorem lk_Reader_64_8 : LU "ProphecyShop$Reader" 64 8 1 m_Reader_fail := ⟨hd_Reader_fail, rfl, _, ⟨"ProphecyShop$Reader", "fail", "(I)V"⟩, rfl, rfl, wg_504, wg_506, wg_508, wg_505, wg_3, by decide +kernel⟩
theorem lk_Reader_79 : LSN "ProphecyShop$Reader" 79 3 m_P_isWithin := ⟨hd_P_isWithin, rfl, "ProphecyShop", wt_521, wg_522, wg_1⟩
theorem hd_Reader_seesSign : hd0 m_Reader_seesSign 1 := hd0_of (by decide +kernel) (by decide +kernel) (by decide +kernel) rfl rfl wg_535
theorem lk_Reader_60_8 : LU "ProphecyShop$Reader" 60 8 1 m_Reader_seesSign := ⟨hd_Reader_seesSign, rfl, _, ⟨"ProphecyShop$Reader", "seesSign", "(C)Z"⟩, rfl, rfl, wg_530, wg_532, wg_534, wg_531, wg_3, by decide +kernel⟩
theorem hd_Reader_takeWord : hd0 m_Reader_takeWord 1 := hd0_of (by decide +kernel) (by decide +kernel) (by decide +kernel) rfl rfl wg_495
theorem lk_SetupReader_59_8 : LU "ProphecyShop$SetupReader" 59 8 1 m_Reader_takeWord := ⟨hd_Reader_takeWord, rfl, _, ⟨"ProphecyShop$SetupReader", "takeWord", "(Ljava/lang/String;)V"⟩, rfl, rfl, wg_490, wg_491, wg_493, wg_494, wg_3, by decide +kernel⟩
theorem hd_Reader_takeNumber : hd0 m_Reader_takeNumber 2 := hd0_of (by decide +kernel) (by decide +kernel) (by decide +kernel) rfl rfl wg_516
theorem lk_SetupReader_64_8 : LU "ProphecyShop$SetupReader" 64 8 2 m_Reader_takeNumber := ⟨hd_Reader_takeNumber, rfl, _, ⟨"ProphecyShop$SetupReader", "takeNumber", "(II)I"⟩, rfl, rfl, wg_511, wg_512, wg_514, wg_515, wg_3, by decide +kernel⟩
theorem hd_Reader_takeSign : hd0 m_Reader_takeSign 1 := hd0_of (by decide +kernel) (by decide +kernel) (by decide +kernel) rfl rfl wg_529
theorem lk_SetupReader_83_8 : LU "ProphecyShop$SetupReader" 83 8 1 m_Reader_takeSign := ⟨hd_Reader_takeSign, rfl, _, ⟨"ProphecyShop$SetupReader", "takeSign", "(C)V"⟩, rfl, rfl, wg_524, wg_525, wg_527, wg_528, wg_3, by decide +kernel⟩
theorem lk_Names_19 : LV "ProphecyShop$Names" 19 11 1 m_Text_at := ⟨hd_Text_at, rfl, ⟨_, rfl, rfl⟩, wg_568, wg_476, wg_477, wg_2⟩
theorem hd_Names_codeOf : hd0 m_Names_codeOf 3 := hd0_of (by decide +kernel) (by decide +kernel) (by decide +kernel) rfl rfl wg_567
theorem lk_Reader_91 : m_Names_codeOf.2.2.2.2 = [] ∧ LST "ProphecyShop$Reader" 91 3 m_Names_codeOf := ⟨rfl, hd_Names_codeOf, wg_565, wg_566, wg_8⟩
theorem hd_Reader_codeOfName : hd0 m_Reader_codeOfName 0 := hd0_of (by decide +kernel) (by decide +kernel) (by decide +kernel) rfl rfl wg_564
theorem lk_Reader_83_8 : LU "ProphecyShop$Reader" 83 8 0 m_Reader_codeOfName := ⟨hd_Reader_codeOfName, rfl, _, ⟨"ProphecyShop$Reader", "codeOfName", "()I"⟩, rfl, rfl, wg_561, wg_1712, wx_1, wg_563, wg_3, by decide +kernel⟩
theorem hd_Names_find : hd0 m_Names_find 1 := hd0_of (by decide +kernel) (by decide +kernel) (by decide +kernel) rfl rfl wg_572
theorem lk_Reader_86 : LV "ProphecyShop$Reader" 86 3 1 m_Names_find := ⟨hd_Names_find, rfl, ⟨_, rfl, rfl⟩, wg_569, wg_570, wg_571, wg_8⟩
theorem lk_SetupReader_87_8 : LU "ProphecyShop$SetupReader" 87 8 1 m_Reader_sees := ⟨hd_Reader_sees, rfl, _, ⟨"ProphecyShop$SetupReader", "sees", "(Ljava/lang/String;)Z"⟩, rfl, rfl, wg_541, wg_542, wg_544, wg_497, wg_3, by decide +kernel⟩
theorem lk_SetupReader_49_8 : LU "ProphecyShop$SetupReader" 49 8 1 m_Reader_fail := ⟨hd_Reader_fail, rfl, _, ⟨"ProphecyShop$SetupReader", "fail", "(I)V"⟩, rfl, rfl, wg_545, wg_546, wg_548, wg_505, wg_3, by decide +kernel⟩
theorem hd_Reader_takeCounted : hd0 m_Reader_takeCounted 3 := hd0_of (by decide +kernel) (by decide +kernel) (by decide +kernel) rfl rfl wg_554
theorem lk_SetupReader_91_8 : LU "ProphecyShop$SetupReader" 91 8 3 m_Reader_takeCounted := ⟨hd_Reader_takeCounted, rfl, _, ⟨"ProphecyShop$SetupReader", "takeCounted", "(Ljava/lang/String;II)V"⟩, rfl, rfl, wg_549, wg_550, wg_552, wg_553, wg_3, by decide +kernel⟩
theorem hd_Reader_takeNewName : hd0 m_Reader_takeNewName 1 := hd0_of (by decide +kernel) (by decide +kernel) (by decide +kernel) rfl rfl wg_560
theorem lk_SetupReader_95_8 : LU "ProphecyShop$SetupReader" 95 8 1 m_Reader_takeNewName := ⟨hd_Reader_takeNewName, rfl, _, ⟨"ProphecyShop$SetupReader", "takeNewName", "(LProphecyShop$Names;)I"⟩, rfl, rfl, wg_555, wg_556, wg_558, wg_559, wg_3, by decide +kernel⟩
theorem hd_Names_add : hd0 m_Names_add 1 := hd0_of (by decide +kernel) (by decide +kernel) (by decide +kernel) rfl rfl wg_576
theorem lk_SetupReader_99 : LV "ProphecyShop$SetupReader" 99 3 1 m_Names_add := ⟨hd_Names_add, rfl, ⟨_, rfl, rfl⟩, wg_573, wg_574, wg_575, wg_8⟩
theorem lk_Setup_56 : LV "ProphecyShop$Setup" 56 3 1 m_Names_add := ⟨hd_Names_add, rfl, ⟨_, rfl, rfl⟩, wg_587, wg_574, wg_575, wg_8⟩
theorem hd_Setup_addCustomer : hd0 m_Setup_addCustomer 3 := hd0_of (by decide +kernel) (by decide +kernel) (by decide +kernel) rfl rfl wg_586
theorem lk_SetupReader_109 : LV "ProphecyShop$SetupReader" 109 7 3 m_Setup_addCustomer := ⟨hd_Setup_addCustomer, rfl, ⟨_, rfl, rfl⟩, wg_583, wg_584, wg_585, wg_7⟩
theorem hd_Setup_addOwl : hd0 m_Setup_addOwl 1 := hd0_of (by decide +kernel) (by decide +kernel) (by decide +kernel) rfl rfl wg_596
theorem lk_SetupReader_115 : LV "ProphecyShop$SetupReader" 115 7 1 m_Setup_addOwl := ⟨hd_Setup_addOwl, rfl, ⟨_, rfl, rfl⟩, wg_593, wg_594, wg_595, wg_7⟩
theorem hd_Setup_clear : hd0 m_Setup_clear 0 := hd0_of (by decide +kernel) (by decide +kernel) (by decide +kernel) rfl rfl wg_460
theorem lk_SetupReader_9 : LV "ProphecyShop$SetupReader" 9 7 0 m_Setup_clear := ⟨hd_Setup_clear, rfl, ⟨_, rfl, rfl⟩, wg_457, wg_458, wg_459, wg_7⟩
theorem hd_Reader_begin : hd0 m_Reader_begin 0 := hd0_of (by decide +kernel) (by decide +kernel) (by decide +kernel) rfl rfl wg_466
theorem lk_SetupReader_15_8 : LU "ProphecyShop$SetupReader" 15 8 0 m_Reader_begin := ⟨hd_Reader_begin, rfl, _, ⟨"ProphecyShop$SetupReader", "begin", "()V"⟩, rfl, rfl, wg_461, wg_462, wg_464, wg_465, wg_3, by decide +kernel⟩
theorem hd_SetupReader_readShop : hd0 m_SetupReader_readShop 1 := hd0_of (by decide +kernel) (by decide +kernel) (by decide +kernel) rfl rfl wg_488
theorem lk_SetupReader_20 : LV "ProphecyShop$SetupReader" 20 8 1 m_SetupReader_readShop := ⟨hd_SetupReader_readShop, rfl, ⟨_, rfl, rfl⟩, wg_485, wg_487, ws_1, wg_4⟩
theorem hd_SetupReader_readNames : hd0 m_SetupReader_readNames 2 := hd0_of (by decide +kernel) (by decide +kernel) (by decide +kernel) rfl rfl wg_540
theorem lk_SetupReader_30 : LV "ProphecyShop$SetupReader" 30 8 2 m_SetupReader_readNames := ⟨hd_SetupReader_readNames, rfl, ⟨_, rfl, rfl⟩, wg_537, wg_539, ws_2, wg_4⟩
theorem hd_SetupReader_readCustomers : hd0 m_SetupReader_readCustomers 1 := hd0_of (by decide +kernel) (by decide +kernel) (by decide +kernel) rfl rfl wg_581
theorem lk_SetupReader_39 : LV "ProphecyShop$SetupReader" 39 8 1 m_SetupReader_readCustomers := ⟨hd_SetupReader_readCustomers, rfl, ⟨_, rfl, rfl⟩, wg_578, wg_580, ws_3, wg_4⟩
theorem hd_SetupReader_readOwls : hd0 m_SetupReader_readOwls 1 := hd0_of (by decide +kernel) (by decide +kernel) (by decide +kernel) rfl rfl wg_591
theorem lk_SetupReader_42 : LV "ProphecyShop$SetupReader" 42 8 1 m_SetupReader_readOwls := ⟨hd_SetupReader_readOwls, rfl, ⟨_, rfl, rfl⟩, wg_588, wg_590, ws_4, wg_4⟩
theorem hd_Reader_seesEnd : hd0 m_Reader_seesEnd 0 := hd0_of (by decide +kernel) (by decide +kernel) (by decide +kernel) rfl rfl wg_602
theorem lk_SetupReader_45_8 : LU "ProphecyShop$SetupReader" 45 8 0 m_Reader_seesEnd := ⟨hd_Reader_seesEnd, rfl, _, ⟨"ProphecyShop$SetupReader", "seesEnd", "()Z"⟩, rfl, rfl, wg_597, wg_598, wg_600, wg_601, wg_3, by decide +kernel⟩
theorem lk_Shop_70 : LV "ProphecyShop$Shop" 70 7 1 m_Setup_firstCoinsOf := ⟨hd_Setup_firstCoinsOf, rfl, ⟨_, rfl, rfl⟩, wg_611, wg_612, wg_613, wg_7⟩
theorem hd_Owl_rest : hd0 m_Owl_rest 0 := hd0_of (by decide +kernel) (by decide +kernel) (by decide +kernel) rfl rfl wg_622
theorem lk_Shop_74 : LV "ProphecyShop$Shop" 74 4 0 m_Owl_rest := ⟨hd_Owl_rest, rfl, ⟨_, rfl, rfl⟩, wg_619, wg_620, wg_621, wg_11⟩
theorem hd_SetupReader_readInto : hd0 m_SetupReader_readInto 1 := hd0_of (by decide +kernel) (by decide +kernel) (by decide +kernel) rfl rfl wg_456
theorem lk_ProphecyShop_356 : LV "ProphecyShop" 356 8 1 m_SetupReader_readInto := ⟨hd_SetupReader_readInto, rfl, ⟨_, rfl, rfl⟩, wg_453, wg_454, wg_455, wg_4⟩
theorem hd_Text_shortenTo : hd0 m_Text_shortenTo 1 := hd0_of (by decide +kernel) (by decide +kernel) (by decide +kernel) rfl rfl wg_606
theorem lk_ProphecyShop_127 : LV "ProphecyShop" 127 11 1 m_Text_shortenTo := ⟨hd_Text_shortenTo, rfl, ⟨_, rfl, rfl⟩, wg_603, wg_604, wg_605, wg_2⟩
theorem hd_Shop_openWith : hd0 m_Shop_openWith 1 := hd0_of (by decide +kernel) (by decide +kernel) (by decide +kernel) rfl rfl wg_610
theorem lk_ProphecyShop_359 : LV "ProphecyShop" 359 9 1 m_Shop_openWith := ⟨hd_Shop_openWith, rfl, ⟨_, rfl, rfl⟩, wg_607, wg_608, wg_609, wg_9⟩
theorem hd_P_openShop : hd0 m_P_openShop 0 := hd0_of (by decide +kernel) (by decide +kernel) (by decide +kernel) rfl rfl wg_452
theorem lk_ProphecyShop_98 : LV "ProphecyShop" 98 12 0 m_P_openShop := ⟨hd_P_openShop, rfl, ⟨_, rfl, rfl⟩, wg_449, wg_451, ws_0, wg_1⟩
theorem hd_Shop_sumOfPrices : hd0 m_Shop_sumOfPrices 0 := hd0_of (by decide +kernel) (by decide +kernel) (by decide +kernel) rfl rfl wg_1421
theorem lk_ProphecyShop_278 : LV "ProphecyShop" 278 9 0 m_Shop_sumOfPrices := ⟨hd_Shop_sumOfPrices, rfl, ⟨_, rfl, rfl⟩, wg_1418, wg_1419, wg_1420, wg_9⟩
theorem lk_ProphecyShop_243 : LV "ProphecyShop" 243 9 1 m_Shop_requestsBefore := ⟨hd_Shop_requestsBefore, rfl, ⟨_, rfl, rfl⟩, wg_1255, wg_1256, wg_1257, wg_9⟩
theorem hd_Shop_coinsOf : hd0 m_Shop_coinsOf 1 := hd0_of (by decide +kernel) (by decide +kernel) (by decide +kernel) rfl rfl wg_1317
theorem lk_ProphecyShop_182 : LV "ProphecyShop" 182 9 1 m_Shop_coinsOf := ⟨hd_Shop_coinsOf, rfl, ⟨_, rfl, rfl⟩, wg_1314, wg_1315, wg_1316, wg_9⟩
theorem lk_ProphecyShop_233 : LV "ProphecyShop" 233 9 1 m_Shop_refundFor := ⟨hd_Shop_refundFor, rfl, ⟨_, rfl, rfl⟩, wg_1243, wg_1244, wg_1245, wg_9⟩
theorem lk_Shop_113 : LV "ProphecyShop$Shop" 113 9 1 m_Shop_coinsOf := ⟨hd_Shop_coinsOf, rfl, ⟨_, rfl, rfl⟩, wg_1594, wg_1315, wg_1316, wg_9⟩
theorem hd_Shop_faultOfSale : hd0 m_Shop_faultOfSale 7 := hd0_of (by decide +kernel) (by decide +kernel) (by decide +kernel) rfl rfl wg_1591
theorem lk_ProphecyShop_362 : LV "ProphecyShop" 362 9 7 m_Shop_faultOfSale := ⟨hd_Shop_faultOfSale, rfl, ⟨_, rfl, rfl⟩, wg_1588, wg_1589, wg_1590, wg_9⟩
theorem hd_Shop_addProphecy : hd0 m_Shop_addProphecy 7 := hd0_of (by decide +kernel) (by decide +kernel) (by decide +kernel) rfl rfl wg_1611
theorem lk_ProphecyShop_365 : LV "ProphecyShop" 365 9 7 m_Shop_addProphecy := ⟨hd_Shop_addProphecy, rfl, ⟨_, rfl, rfl⟩, wg_1608, wg_1609, wg_1610, wg_9⟩
theorem hd_P_sellAny : hd0 m_P_sellAny 7 := hd0_of (by decide +kernel) (by decide +kernel) (by decide +kernel) rfl rfl wg_1587
theorem lk_ProphecyShop_305 : LV "ProphecyShop" 305 12 7 m_P_sellAny := ⟨hd_P_sellAny, rfl, ⟨_, rfl, rfl⟩, wg_1584, wg_1586, ws_14, wg_1⟩
theorem lk_ProphecyShop_185 : LV "ProphecyShop" 185 9 2 m_Shop_countHappenings := ⟨hd_Shop_countHappenings, rfl, ⟨_, rfl, rfl⟩, wg_1461, wg_1462, wg_1463, wg_9⟩
theorem hd_History_takeBack : hd0 m_History_takeBack 1 := hd0_of (by decide +kernel) (by decide +kernel) (by decide +kernel) rfl rfl wg_744
theorem lk_ProphecyShop_351 : LV "ProphecyShop" 351 2 1 m_History_takeBack := ⟨hd_History_takeBack, rfl, ⟨_, rfl, rfl⟩, wg_741, wg_742, wg_743, wg_12⟩
theorem hd_Own_refund : hd0 m_Own_refund 1 := hd0_of (by decide +kernel) (by decide +kernel) (by decide +kernel) rfl rfl wg_1250
theorem lk_Own_118 : LV "ProphecyShopLaw$Own" 118 13 1 m_Own_refund := ⟨hd_Own_refund, rfl, ⟨_, rfl, rfl⟩, wg_1280, wg_1248, wg_1249, wg_18⟩
theorem hd_Own_expected : hd0 m_Own_expected 1 := hd0_of (by decide +kernel) (by decide +kernel) (by decide +kernel) rfl rfl wg_1279
theorem lk_Own_122 : LV "ProphecyShopLaw$Own" 122 13 1 m_Own_expected := ⟨hd_Own_expected, rfl, ⟨_, rfl, rfl⟩, wg_1565, wg_1277, wg_1278, wg_18⟩
theorem hd_Own_idle : hd0 m_Own_idle 0 := hd0_of (by decide +kernel) (by decide +kernel) (by decide +kernel) rfl rfl wg_1569
theorem lk_Own_125 : LV "ProphecyShopLaw$Own" 125 13 0 m_Own_idle := ⟨hd_Own_idle, rfl, ⟨_, rfl, rfl⟩, wg_1566, wg_1567, wg_1568, wg_18⟩
