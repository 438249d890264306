theorem coC_0 : CO 0 RJ0 TJ0 4 tyJ0 := ⟨rfl, fun w h => lw_g (List.mem_append_left _ (iwTJ0 w h)) (List.all_eq_true.mp (show (u_ws RJ0 TJ0 4).all goodWord = true by decide +kernel) w h), tyJ0_ok, nmJ0⟩
theorem coC_1 : CO 1 RJ4 TJ4 4 tyJ4 := ⟨rfl, fun w h => lw_g (List.mem_append_left _ (iwTJ4 w h)) (List.all_eq_true.mp (show (u_ws RJ4 TJ4 4).all goodWord = true by decide +kernel) w h), tyJ4_ok, nmJ4⟩
theorem coC_2 : CO 2 RX0 TX0 2 tyX0 := ⟨rfl, fun w h => lw_g (List.mem_append_left _ (iwTX0 w h)) (List.all_eq_true.mp (show (u_ws RX0 TX0 2).all goodWord = true by decide +kernel) w h), tyX0_ok, nmX0⟩
theorem coC_3 : CO 3 RX1 TX1 2 tyX1 := ⟨rfl, fun w h => lw_g (List.mem_append_left _ (iwTX1 w h)) (List.all_eq_true.mp (show (u_ws RX1 TX1 2).all goodWord = true by decide +kernel) w h), tyX1_ok, nmX1⟩
theorem coC_4 : CO 4 RX2 TX2 5 tyX2 := ⟨rfl, fun w h => lw_g (List.mem_append_left _ (iwTX2 w h)) (List.all_eq_true.mp (show (u_ws RX2 TX2 5).all goodWord = true by decide +kernel) w h), tyX2_ok, nmX2⟩
theorem coC_5 : CO 5 RX3 TX3 10 tyX3 := ⟨rfl, fun w h => lw_g (List.mem_append_left _ (iwTX3 w h)) (List.all_eq_true.mp (show (u_ws RX3 TX3 10).all goodWord = true by decide +kernel) w h), tyX3_ok, nmX3⟩
theorem coC_6 : CO 6 RX5 TX5 11 tyX5 := ⟨rfl, fun w h => lw_g (List.mem_append_left _ (iwTX5 w h)) (List.all_eq_true.mp (show (u_ws RX5 TX5 11).all goodWord = true by decide +kernel) w h), tyX5_ok, nmX5⟩
theorem coC_7 : CO 7 RX6 TX6 12 tyX6 := ⟨rfl, fun w h => lw_g (List.mem_append_left _ (iwTX6 w h)) (List.all_eq_true.mp (show (u_ws RX6 TX6 12).all goodWord = true by decide +kernel) w h), tyX6_ok, nmX6⟩
theorem coC_8 : CO 8 RX7 TX7 6 tyX7 := ⟨rfl, fun w h => lw_g (List.mem_append_left _ (iwTX7 w h)) (List.all_eq_true.mp (show (u_ws RX7 TX7 6).all goodWord = true by decide +kernel) w h), tyX7_ok, nmX7⟩
theorem coC_9 : CO 9 RX8 TX8 15 tyX8 := ⟨rfl, fun w h => lw_g (List.mem_append_left _ (iwTX8 w h)) (List.all_eq_true.mp (show (u_ws RX8 TX8 15).all goodWord = true by decide +kernel) w h), tyX8_ok, nmX8⟩
theorem coC_10 : CO 10 RX9 TX9 11 tyX9 := ⟨rfl, fun w h => lw_g (List.mem_append_left _ (iwTX9 w h)) (List.all_eq_true.mp (show (u_ws RX9 TX9 11).all goodWord = true by decide +kernel) w h), tyX9_ok, nmX9⟩
theorem coC_11 : CO 11 RX10 TX10 2 tyX10 := ⟨rfl, fun w h => lw_g (List.mem_append_left _ (iwTX10 w h)) (List.all_eq_true.mp (show (u_ws RX10 TX10 2).all goodWord = true by decide +kernel) w h), tyX10_ok, nmX10⟩
theorem coC_12 : CO 12 RX11 TX11 13 tyX11 := ⟨rfl, fun w h => lw_g (List.mem_append_left _ (iwTX11 w h)) (List.all_eq_true.mp (show (u_ws RX11 TX11 13).all goodWord = true by decide +kernel) w h), tyX11_ok, nmX11⟩
theorem coC_13 : CO 13 RX12 TX12 29 tyX12 := ⟨rfl, fun w h => lw_g (List.mem_append_left _ (iwTX12 w h)) (List.all_eq_true.mp (show (u_ws RX12 TX12 29).all goodWord = true by decide +kernel) w h), tyX12_ok, nmX12⟩
theorem v_2 : vc 2 0 := rfl
theorem v_6 : vc 6 0 := rfl
theorem v_8 : vc 8 0 := rfl
theorem v_11 : vc 11 0 := rfl
theorem v_12 : vc 12 0 := rfl
theorem v_20 : vc 20 0 := rfl
theorem v_21 : vc 21 0 := rfl
theorem v_22 : vc 22 0 := rfl
theorem v_34 : vc 34 0 := rfl
theorem v_35 : vc 35 0 := rfl
theorem v_36 : vc 36 0 := rfl
theorem v_13 : vr 13 0 := rfl
theorem v_40 : vr 40 0 := rfl
theorem v_41 : vr 41 0 := rfl
theorem v_42 : vr 42 0 := rfl
theorem v_43 : vr 43 0 := rfl
theorem v_44 : vr 44 0 := rfl
theorem v_45 : vr 45 0 := rfl
theorem v_46 : vr 46 0 := rfl
theorem v_47 : vr 47 0 := rfl
theorem v_48 : vr 48 0 := rfl
theorem v_49 : vr 49 0 := rfl
theorem v_50 : vr 50 0 := rfl
theorem tv_3_0 {j : Nat} (h : vc 3 j) : vc 23 (j) := by
  have h1 : j < 6 := h
  show j < 6
  omega
theorem tv_7_5 {j : Nat} (h : vc 7 j) : vc 3 (3 * j) := by
  have h1 : j < 2 := h
  show 3 * j < 6
  omega
theorem tv_7_6 {j : Nat} (h : vc 7 j) : vc 3 (3 * j + 1) := by
  have h1 : j < 2 := h
  show 3 * j + 1 < 6
  omega
theorem tv_7_7 {j : Nat} (h : vc 7 j) : vc 3 (3 * j + 2) := by
  have h1 : j < 2 := h
  show 3 * j + 2 < 6
  omega
theorem tv_7_8 {j : Nat} (h : vc 7 j) : vc 24 (j) := by
  have h1 : j < 2 := h
  show j < 2
  omega
theorem tv_7_9 {j : Nat} (h : vc 7 j) : vc 25 (j) := by
  have h1 : j < 2 := h
  show j < 2
  omega
theorem tv_7_10 {j : Nat} (h : vc 7 j) : vc 26 (j) := by
  have h1 : j < 2 := h
  show j < 2
  omega
theorem tv_9_3 {j : Nat} (h : vc 9 j) : vc 27 (j) := by
  have h1 : j < 12 := h
  show j < 12
  omega
theorem tv_9_4 {j : Nat} (h : vc 9 j) : vc 28 (j) := by
  have h1 : j < 12 := h
  show j < 12
  omega
theorem tv_9_6 {j : Nat} (h : vc 9 j) : vc 29 (j) := by
  have h1 : j < 12 := h
  show j < 12
  omega
theorem tv_9_7 {j : Nat} (h : vc 9 j) : vc 30 (j) := by
  have h1 : j < 12 := h
  show j < 12
  omega
theorem tv_9_9 {j : Nat} (h : vc 9 j) : vc 31 (j) := by
  have h1 : j < 12 := h
  show j < 12
  omega
theorem tv_9_10 {j : Nat} (h : vc 9 j) : vc 32 (j) := by
  have h1 : j < 12 := h
  show j < 12
  omega
theorem tv_9_11 {j : Nat} (h : vc 9 j) : vc 33 (j) := by
  have h1 : j < 12 := h
  show j < 12
  omega
theorem ta_21 {j : Nat} {i : Int32} (h : vc 21 j) (b : inb i 60 = true) : vc 10 (i.toNatClampNeg) := by
  have h1 := inb_lt b
  have h2 : j = 0 := h
  show i.toNatClampNeg < 60
  omega
theorem ta_28 {j : Nat} {i : Int32} (h : vc 28 j) (b : inb i 24 = true) : vc 5 (24 * j + i.toNatClampNeg) := by
  have h1 := inb_lt b
  have h2 : j < 12 := h
  show 24 * j + i.toNatClampNeg < 288
  omega
theorem ta_29 {j : Nat} {i : Int32} (h : vc 29 j) (b : inb i 5 = true) : vc 4 (5 * j + i.toNatClampNeg) := by
  have h1 := inb_lt b
  have h2 : j < 12 := h
  show 5 * j + i.toNatClampNeg < 60
  omega
theorem ta_35 {j : Nat} {i : Int32} (h : vc 35 j) (b : inb i 2 = true) : vc 9 (10 + i.toNatClampNeg) := by
  have h1 := inb_lt b
  have h2 : j = 0 := h
  show 10 + i.toNatClampNeg < 12
  omega
/-- the letters of the String constants -/
def sTx : Nat → List Int32
  | 0 => []
  | 1 => [115, 104, 111, 112, 32, 49, 48, 48, 32, 50, 32, 53, 32, 49, 48, 48, 32, 53, 48, 59, 32, 101, 118, 101, 110, 116, 32, 114, 97, 105, 110, 59, 32, 101, 118, 101, 110, 116, 32, 119, 97, 114, 59, 32, 112, 108, 97, 99, 101, 32, 105, 110, 110, 59, 32, 112, 108, 97, 99, 101, 32, 109, 105, 108, 108, 59, 32, 112, 108, 97, 99, 101, 32, 112, 97, 115, 115, 59, 32, 99, 117, 115, 116, 111, 109, 101, 114, 32, 97, 100, 97, 32, 56, 48, 32, 52, 59, 32, 99, 117, 115, 116, 111, 109, 101, 114, 32, 98, 101, 110, 32, 51, 48, 48, 32, 57, 59, 32, 99, 117, 115, 116, 111, 109, 101, 114, 32, 99, 97, 105, 32, 50, 48, 32, 49, 53, 59, 32, 111, 119, 108, 32, 51, 59, 32, 111, 119, 108, 32, 53, 59]
  | 2 => [115, 104, 111, 112]
  | 3 => [101, 118, 101, 110, 116]
  | 4 => [112, 108, 97, 99, 101]
  | 5 => [99, 117, 115, 116, 111, 109, 101, 114]
  | 6 => [111, 119, 108]
  | 7 => [115, 101, 108, 108]
  | 8 => [118, 97, 103, 117, 101]
  | 9 => [110, 101, 118, 101, 114]
  | 10 => [112, 108, 97, 105, 110]
  | 11 => [104, 97, 112, 112, 101, 110]
  | 12 => [97, 115, 107]
  | 13 => [112, 97, 115, 115]
  | 14 => [114, 101, 112, 101, 97, 116]
  | 15 => [32, 62, 32]
  | 16 => [116, 104, 101, 32, 116, 101, 120, 116, 32, 119, 111, 117, 108, 100, 32, 98, 101, 32, 116, 111, 111, 32, 108, 111, 110, 103]
  | 17 => [116, 104, 101, 32, 108, 101, 110, 103, 116, 104, 32, 105, 115, 32, 111, 117, 116, 32, 111, 102, 32, 114, 97, 110, 103, 101]
  | 18 => [110, 111, 32, 115, 117, 99, 104, 32, 110, 117, 109, 98, 101, 114]
  | 19 => [116, 104, 101, 32, 112, 114, 111, 112, 104, 101, 99, 121, 32, 105, 115, 32, 111, 112, 101, 110]
  | 20 => [110, 111, 32, 115, 117, 99, 104, 32, 115, 116, 97, 116, 101]
  | 21 => [116, 104, 101, 32, 100, 97, 121, 115, 32, 97, 114, 101, 32, 111, 117, 116, 32, 111, 102, 32, 114, 97, 110, 103, 101]
  | 22 => [97, 32, 118, 97, 108, 117, 101, 32, 105, 115, 32, 111, 117, 116, 32, 111, 102, 32, 114, 97, 110, 103, 101]
  | 23 => [110, 111, 116, 32, 112, 111, 115, 115, 105, 98, 108, 101, 32, 110, 111, 119]
  | 24 => [110, 111, 32, 99, 104, 97, 110, 103, 101, 32, 99, 97, 110, 32, 98, 101, 32, 117, 110, 100, 111, 110, 101]
  | 25 => [116, 104, 101, 32, 115, 108, 111, 116, 32, 105, 115, 32, 101, 109, 112, 116, 121]
  | 26 => [115, 104, 111, 112, 32, 49, 48, 48, 32, 50, 32, 53, 32, 49, 48, 48, 32, 53, 48, 59, 32, 101, 118, 101, 110, 116, 32, 114, 97, 105, 110, 59, 32, 101, 118, 101, 110, 116, 32, 119, 97, 114, 59, 32, 112, 108, 97, 99, 101, 32, 105, 110, 110, 59, 32, 112, 108, 97, 99, 101, 32, 109, 105, 108, 108, 59, 32, 112, 108, 97, 99, 101, 32, 112, 97, 115, 115, 59, 32, 99, 117, 115, 116, 111, 109, 101, 114, 32, 97, 100, 97, 32, 56, 48, 32, 52, 59, 32, 99, 117, 115, 116, 111, 109, 101, 114, 32, 98, 101, 110, 32, 51, 48, 48, 32, 57, 59, 32, 99, 117, 115, 116, 111, 109, 101, 114, 32, 99, 97, 105, 32, 50, 48, 32, 49, 53, 59, 32, 111, 119, 108, 32, 51, 59, 32, 111, 119, 108, 32, 53, 59]
  | 27 => [115, 104, 111, 112]
  | 28 => [101, 118, 101, 110, 116]
  | 29 => [112, 108, 97, 99, 101]
  | 30 => [99, 117, 115, 116, 111, 109, 101, 114]
  | 31 => [111, 119, 108]
  | 32 => [115, 101, 108, 108]
  | 33 => [104, 97, 112, 112, 101, 110]
  | 34 => [97, 115, 107]
  | 35 => [112, 97, 115, 115]
  | 36 => [114, 101, 112, 101, 97, 116]
  | 37 => [112, 108, 97, 105, 110]
  | 38 => [118, 97, 103, 117, 101]
  | 39 => [110, 101, 118, 101, 114]
  | _ => []
def sLen (i : Nat) : Int32 := Int32.ofNat (sTx i).length
def sAt (i : Nat) (k : Int32) : Int32 := (sTx i).getD k.toNatClampNeg 0
/-- the old cells hold the constants: their object at i, their bytes at 40 + i -/
def sObj (i : Nat) : Nat → RV := fun k => if k = 0 then .inr (1, 40 + i) else .inl (.int 0)
def SG (g : GL) : Prop := ∀ i, i < 40 → g.2.2.2.2.2 i = some (false, 14, 0, sObj i) ∧ g.2.2.2.2.2 (40 + i) = some (true, 2, (sTx i).length, fun j => .inl (.int ((sTx i).getD j 0)))
theorem st_0 : ("ProphecyShop", 76, "", 0) ∈ rStr := by decide +kernel
theorem st_1 : ("ProphecyShop", 82, "shop 100 2 5 100 50; event rain; event war; place inn; place mill; place pass; customer ada 80 4; customer ben 300 9; customer cai 20 15; owl 3; owl 5;", 1) ∈ rStr := by decide +kernel
theorem st_2 : ("ProphecyShop$SetupReader", 57, "shop", 2) ∈ rStr := by decide +kernel
theorem st_3 : ("ProphecyShop$SetupReader", 24, "event", 3) ∈ rStr := by decide +kernel
theorem st_4 : ("ProphecyShop$SetupReader", 34, "place", 4) ∈ rStr := by decide +kernel
theorem st_5 : ("ProphecyShop$SetupReader", 104, "customer", 5) ∈ rStr := by decide +kernel
theorem st_6 : ("ProphecyShop$SetupReader", 113, "owl", 6) ∈ rStr := by decide +kernel
theorem st_7 : ("ProphecyShop$Script", 59, "sell", 7) ∈ rStr := by decide +kernel
theorem st_8 : ("ProphecyShop$Script", 150, "vague", 8) ∈ rStr := by decide +kernel
theorem st_9 : ("ProphecyShop$Script", 156, "never", 9) ∈ rStr := by decide +kernel
theorem st_10 : ("ProphecyShop$Script", 158, "plain", 10) ∈ rStr := by decide +kernel
theorem st_11 : ("ProphecyShop$Script", 73, "happen", 11) ∈ rStr := by decide +kernel
theorem st_12 : ("ProphecyShop$Script", 78, "ask", 12) ∈ rStr := by decide +kernel
theorem st_13 : ("ProphecyShop$Script", 91, "pass", 13) ∈ rStr := by decide +kernel
theorem st_14 : ("ProphecyShop$Script", 93, "repeat", 14) ∈ rStr := by decide +kernel
theorem st_15 : ("java/util/Arrays", 337, " > ", 15) ∈ rStr := by decide +kernel
theorem st_16 : ("ProphecyShop", 110, "the text would be too long", 16) ∈ rStr := by decide +kernel
theorem st_17 : ("ProphecyShop", 124, "the length is out of range", 17) ∈ rStr := by decide +kernel
theorem st_18 : ("ProphecyShop", 370, "no such number", 18) ∈ rStr := by decide +kernel
theorem st_19 : ("ProphecyShop", 227, "the prophecy is open", 19) ∈ rStr := by decide +kernel
theorem st_20 : ("ProphecyShop", 267, "no such state", 20) ∈ rStr := by decide +kernel
theorem st_21 : ("ProphecyShop", 303, "the days are out of range", 21) ∈ rStr := by decide +kernel
theorem st_22 : ("ProphecyShop", 373, "a value is out of range", 22) ∈ rStr := by decide +kernel
theorem st_23 : ("ProphecyShop", 375, "not possible now", 23) ∈ rStr := by decide +kernel
theorem st_24 : ("ProphecyShop", 349, "no change can be undone", 24) ∈ rStr := by decide +kernel
theorem st_25 : ("ProphecyShop", 354, "the slot is empty", 25) ∈ rStr := by decide +kernel
theorem st_26 : ("ProphecyShopModel", 48, "shop 100 2 5 100 50; event rain; event war; place inn; place mill; place pass; customer ada 80 4; customer ben 300 9; customer cai 20 15; owl 3; owl 5;", 26) ∈ rStr := by decide +kernel
theorem st_27 : ("ProphecyShopModel", 213, "shop", 27) ∈ rStr := by decide +kernel
theorem st_28 : ("ProphecyShopModel", 198, "event", 28) ∈ rStr := by decide +kernel
theorem st_29 : ("ProphecyShopModel", 207, "place", 29) ∈ rStr := by decide +kernel
theorem st_30 : ("ProphecyShopModel", 222, "customer", 30) ∈ rStr := by decide +kernel
theorem st_31 : ("ProphecyShopModel", 211, "owl", 31) ∈ rStr := by decide +kernel
theorem st_32 : ("ProphecyShopModel", 236, "sell", 32) ∈ rStr := by decide +kernel
theorem st_33 : ("ProphecyShopModel", 238, "happen", 33) ∈ rStr := by decide +kernel
theorem st_34 : ("ProphecyShopModel", 240, "ask", 34) ∈ rStr := by decide +kernel
theorem st_35 : ("ProphecyShopModel", 242, "pass", 35) ∈ rStr := by decide +kernel
theorem st_36 : ("ProphecyShopModel", 244, "repeat", 36) ∈ rStr := by decide +kernel
theorem st_37 : ("ProphecyShopModel", 255, "plain", 37) ∈ rStr := by decide +kernel
theorem st_38 : ("ProphecyShopModel", 257, "vague", 38) ∈ rStr := by decide +kernel
theorem st_39 : ("ProphecyShopModel", 259, "never", 39) ∈ rStr := by decide +kernel
theorem fg_ProphecyShopModel_252_13 : FLg "ProphecyShopModel" 252 13 20 := ⟨_, _, _, _, "ProphecyShopModel", coC_13, by decide, wg_1822, Or.inl rfl⟩
theorem fg_ProphecyShopModel_36_13 : FLg "ProphecyShopModel" 36 13 18 := ⟨_, _, _, _, "ProphecyShopModel", coC_13, by decide, wg_1820, Or.inl rfl⟩
theorem fl_ProphecyShopModel_252_13 : FL "ProphecyShopModel" 252 13 20 false (tyX12 20) := ⟨_, _, _, _, "ProphecyShopModel", coC_13, by decide, wg_1822, Or.inl rfl, rfl, (fun h => by cases h), rfl⟩
theorem fg_ProphecyShopModel_156_13 : FLg "ProphecyShopModel" 156 13 16 := ⟨_, _, _, _, "ProphecyShopModel", coC_13, by decide, wg_1818, Or.inl rfl⟩
theorem fg_ProphecyShopModel_144_13 : FLg "ProphecyShopModel" 144 13 14 := ⟨_, _, _, _, "ProphecyShopModel", coC_13, by decide, wg_1816, Or.inl rfl⟩
theorem fg_ProphecyShopModel_311_13 : FLg "ProphecyShopModel" 311 13 21 := ⟨_, _, _, _, "ProphecyShopModel", coC_13, by decide, wg_1823, Or.inl rfl⟩
theorem fg_ProphecyShopModel_73_13 : FLg "ProphecyShopModel" 73 13 7 := ⟨_, _, _, _, "ProphecyShopModel", coC_13, by decide, wg_1809, Or.inl rfl⟩
theorem fl_ProphecyShopModel_311_13 : FL "ProphecyShopModel" 311 13 21 false (tyX12 21) := ⟨_, _, _, _, "ProphecyShopModel", coC_13, by decide, wg_1823, Or.inl rfl, rfl, (fun h => by cases h), rfl⟩
theorem fl_ProphecyShopModel_73_13 : FL "ProphecyShopModel" 73 13 7 false (tyX12 7) := ⟨_, _, _, _, "ProphecyShopModel", coC_13, by decide, wg_1809, Or.inl rfl, rfl, (fun h => by cases h), rfl⟩
theorem fl_ProphecyShopModel_320_13 : FL "ProphecyShopModel" 320 13 22 false (tyX12 22) := ⟨_, _, _, _, "ProphecyShopModel", coC_13, by decide, wg_1824, Or.inl rfl, rfl, (fun h => by cases h), rfl⟩
theorem fg_History_11_2 : FLg "ProphecyShop$History" 11 2 0 := ⟨_, _, _, _, "ProphecyShop$History", coC_2, by decide, wg_404, Or.inl rfl⟩
theorem fl_History_17_2 : FL "ProphecyShop$History" 17 2 1 false (tyX0 1) := ⟨_, _, _, _, "ProphecyShop$History", coC_2, by decide, wg_405, Or.inl rfl, rfl, (fun h => by cases h), rfl⟩
theorem fg_Prophecy_9_5 : FLg "ProphecyShop$Prophecy" 9 5 0 := ⟨_, _, _, _, "ProphecyShop$Prophecy", coC_5, by decide, wg_268, Or.inl rfl⟩
theorem fl_Prophecy_9_5 : FL "ProphecyShop$Prophecy" 9 5 0 false (tyX3 0) := ⟨_, _, _, _, "ProphecyShop$Prophecy", coC_5, by decide, wg_268, Or.inl rfl, rfl, (fun h => by cases h), rfl⟩
theorem fg_Prophecy_15_5 : FLg "ProphecyShop$Prophecy" 15 5 1 := ⟨_, _, _, _, "ProphecyShop$Prophecy", coC_5, by decide, wg_271, Or.inl rfl⟩
theorem fl_Prophecy_15_5 : FL "ProphecyShop$Prophecy" 15 5 1 false (tyX3 1) := ⟨_, _, _, _, "ProphecyShop$Prophecy", coC_5, by decide, wg_271, Or.inl rfl, rfl, (fun h => by cases h), rfl⟩
theorem fg_Prophecy_18_5 : FLg "ProphecyShop$Prophecy" 18 5 2 := ⟨_, _, _, _, "ProphecyShop$Prophecy", coC_5, by decide, wg_274, Or.inl rfl⟩
theorem fl_Prophecy_18_5 : FL "ProphecyShop$Prophecy" 18 5 2 false (tyX3 2) := ⟨_, _, _, _, "ProphecyShop$Prophecy", coC_5, by decide, wg_274, Or.inl rfl, rfl, (fun h => by cases h), rfl⟩
theorem fg_Prophecy_21_5 : FLg "ProphecyShop$Prophecy" 21 5 3 := ⟨_, _, _, _, "ProphecyShop$Prophecy", coC_5, by decide, wg_277, Or.inl rfl⟩
theorem fl_Prophecy_21_5 : FL "ProphecyShop$Prophecy" 21 5 3 false (tyX3 3) := ⟨_, _, _, _, "ProphecyShop$Prophecy", coC_5, by decide, wg_277, Or.inl rfl, rfl, (fun h => by cases h), rfl⟩
theorem fg_Prophecy_24_5 : FLg "ProphecyShop$Prophecy" 24 5 4 := ⟨_, _, _, _, "ProphecyShop$Prophecy", coC_5, by decide, wg_280, Or.inl rfl⟩
theorem fl_Prophecy_24_5 : FL "ProphecyShop$Prophecy" 24 5 4 false (tyX3 4) := ⟨_, _, _, _, "ProphecyShop$Prophecy", coC_5, by decide, wg_280, Or.inl rfl, rfl, (fun h => by cases h), rfl⟩
theorem fg_Prophecy_27_5 : FLg "ProphecyShop$Prophecy" 27 5 5 := ⟨_, _, _, _, "ProphecyShop$Prophecy", coC_5, by decide, wg_283, Or.inl rfl⟩
theorem fl_Prophecy_27_5 : FL "ProphecyShop$Prophecy" 27 5 5 false (tyX3 5) := ⟨_, _, _, _, "ProphecyShop$Prophecy", coC_5, by decide, wg_283, Or.inl rfl, rfl, (fun h => by cases h), rfl⟩
theorem fg_Prophecy_30_5 : FLg "ProphecyShop$Prophecy" 30 5 6 := ⟨_, _, _, _, "ProphecyShop$Prophecy", coC_5, by decide, wg_286, Or.inl rfl⟩
theorem fl_Prophecy_30_5 : FL "ProphecyShop$Prophecy" 30 5 6 false (tyX3 6) := ⟨_, _, _, _, "ProphecyShop$Prophecy", coC_5, by decide, wg_286, Or.inl rfl, rfl, (fun h => by cases h), rfl⟩
theorem fg_Prophecy_33_5 : FLg "ProphecyShop$Prophecy" 33 5 7 := ⟨_, _, _, _, "ProphecyShop$Prophecy", coC_5, by decide, wg_288, Or.inl rfl⟩
theorem fl_Prophecy_33_5 : FL "ProphecyShop$Prophecy" 33 5 7 false (tyX3 7) := ⟨_, _, _, _, "ProphecyShop$Prophecy", coC_5, by decide, wg_288, Or.inl rfl, rfl, (fun h => by cases h), rfl⟩
theorem fg_Prophecy_36_5 : FLg "ProphecyShop$Prophecy" 36 5 8 := ⟨_, _, _, _, "ProphecyShop$Prophecy", coC_5, by decide, wg_291, Or.inl rfl⟩
theorem fl_Prophecy_36_5 : FL "ProphecyShop$Prophecy" 36 5 8 false (tyX3 8) := ⟨_, _, _, _, "ProphecyShop$Prophecy", coC_5, by decide, wg_291, Or.inl rfl, rfl, (fun h => by cases h), rfl⟩
theorem fg_Prophecy_39_5 : FLg "ProphecyShop$Prophecy" 39 5 9 := ⟨_, _, _, _, "ProphecyShop$Prophecy", coC_5, by decide, wg_294, Or.inl rfl⟩
theorem fl_Prophecy_39_5 : FL "ProphecyShop$Prophecy" 39 5 9 false (tyX3 9) := ⟨_, _, _, _, "ProphecyShop$Prophecy", coC_5, by decide, wg_294, Or.inl rfl, rfl, (fun h => by cases h), rfl⟩
theorem fg_Owl_9_4 : FLg "ProphecyShop$Owl" 9 4 0 := ⟨_, _, _, _, "ProphecyShop$Owl", coC_4, by decide, wg_323, Or.inl rfl⟩
theorem fl_Owl_9_4 : FL "ProphecyShop$Owl" 9 4 0 false (tyX2 0) := ⟨_, _, _, _, "ProphecyShop$Owl", coC_4, by decide, wg_323, Or.inl rfl, rfl, (fun h => by cases h), rfl⟩
theorem fg_Owl_15_4 : FLg "ProphecyShop$Owl" 15 4 1 := ⟨_, _, _, _, "ProphecyShop$Owl", coC_4, by decide, wg_326, Or.inl rfl⟩
theorem fl_Owl_15_4 : FL "ProphecyShop$Owl" 15 4 1 false (tyX2 1) := ⟨_, _, _, _, "ProphecyShop$Owl", coC_4, by decide, wg_326, Or.inl rfl, rfl, (fun h => by cases h), rfl⟩
theorem fg_Owl_18_4 : FLg "ProphecyShop$Owl" 18 4 2 := ⟨_, _, _, _, "ProphecyShop$Owl", coC_4, by decide, wg_329, Or.inl rfl⟩
theorem fl_Owl_18_4 : FL "ProphecyShop$Owl" 18 4 2 false (tyX2 2) := ⟨_, _, _, _, "ProphecyShop$Owl", coC_4, by decide, wg_329, Or.inl rfl, rfl, (fun h => by cases h), rfl⟩
theorem fg_Owl_21_4 : FLg "ProphecyShop$Owl" 21 4 3 := ⟨_, _, _, _, "ProphecyShop$Owl", coC_4, by decide, wg_330, Or.inl rfl⟩
theorem fl_Owl_21_4 : FL "ProphecyShop$Owl" 21 4 3 false (tyX2 3) := ⟨_, _, _, _, "ProphecyShop$Owl", coC_4, by decide, wg_330, Or.inl rfl, rfl, (fun h => by cases h), rfl⟩
theorem fg_Owl_24_4 : FLg "ProphecyShop$Owl" 24 4 4 := ⟨_, _, _, _, "ProphecyShop$Owl", coC_4, by decide, wg_331, Or.inl rfl⟩
theorem fl_Owl_24_4 : FL "ProphecyShop$Owl" 24 4 4 false (tyX2 4) := ⟨_, _, _, _, "ProphecyShop$Owl", coC_4, by decide, wg_331, Or.inl rfl, rfl, (fun h => by cases h), rfl⟩
theorem fg_Shop_61_9 : FLg "ProphecyShop$Shop" 61 9 0 := ⟨_, _, _, _, "ProphecyShop$Shop", coC_9, by decide, wg_343, Or.inl rfl⟩
theorem fl_Shop_61_9 : FL "ProphecyShop$Shop" 61 9 0 false (tyX8 0) := ⟨_, _, _, _, "ProphecyShop$Shop", coC_9, by decide, wg_343, Or.inl rfl, rfl, (fun h => by cases h), rfl⟩
theorem fg_Shop_9_9 : FLg "ProphecyShop$Shop" 9 9 1 := ⟨_, _, _, _, "ProphecyShop$Shop", coC_9, by decide, wg_344, Or.inl rfl⟩
theorem fl_Shop_9_9 : FL "ProphecyShop$Shop" 9 9 1 false (tyX8 1) := ⟨_, _, _, _, "ProphecyShop$Shop", coC_9, by decide, wg_344, Or.inl rfl, rfl, (fun h => by cases h), rfl⟩
theorem fg_Shop_15_9 : FLg "ProphecyShop$Shop" 15 9 2 := ⟨_, _, _, _, "ProphecyShop$Shop", coC_9, by decide, wg_346, Or.inl rfl⟩
theorem fl_Shop_15_9 : FL "ProphecyShop$Shop" 15 9 2 false (tyX8 2) := ⟨_, _, _, _, "ProphecyShop$Shop", coC_9, by decide, wg_346, Or.inl rfl, rfl, (fun h => by cases h), rfl⟩
theorem fg_Shop_28_9 : FLg "ProphecyShop$Shop" 28 9 5 := ⟨_, _, _, _, "ProphecyShop$Shop", coC_9, by decide, wg_350, Or.inl rfl⟩
theorem fl_Shop_28_9 : FL "ProphecyShop$Shop" 28 9 5 false (tyX8 5) := ⟨_, _, _, _, "ProphecyShop$Shop", coC_9, by decide, wg_350, Or.inl rfl, rfl, (fun h => by cases h), rfl⟩
theorem fg_Shop_40_9 : FLg "ProphecyShop$Shop" 40 9 8 := ⟨_, _, _, _, "ProphecyShop$Shop", coC_9, by decide, wg_354, Or.inl rfl⟩
theorem fl_Shop_40_9 : FL "ProphecyShop$Shop" 40 9 8 false (tyX8 8) := ⟨_, _, _, _, "ProphecyShop$Shop", coC_9, by decide, wg_354, Or.inl rfl, rfl, (fun h => by cases h), rfl⟩
theorem fg_Shop_52_9 : FLg "ProphecyShop$Shop" 52 9 12 := ⟨_, _, _, _, "ProphecyShop$Shop", coC_9, by decide, wg_359, Or.inl rfl⟩
theorem fl_Shop_52_9 : FL "ProphecyShop$Shop" 52 9 12 false (tyX8 12) := ⟨_, _, _, _, "ProphecyShop$Shop", coC_9, by decide, wg_359, Or.inl rfl, rfl, (fun h => by cases h), rfl⟩
theorem fg_Shop_55_9 : FLg "ProphecyShop$Shop" 55 9 13 := ⟨_, _, _, _, "ProphecyShop$Shop", coC_9, by decide, wg_360, Or.inl rfl⟩
theorem fl_Shop_55_9 : FL "ProphecyShop$Shop" 55 9 13 false (tyX8 13) := ⟨_, _, _, _, "ProphecyShop$Shop", coC_9, by decide, wg_360, Or.inl rfl, rfl, (fun h => by cases h), rfl⟩
theorem fg_Shop_58_9 : FLg "ProphecyShop$Shop" 58 9 14 := ⟨_, _, _, _, "ProphecyShop$Shop", coC_9, by decide, wg_362, Or.inl rfl⟩
theorem fl_Shop_58_9 : FL "ProphecyShop$Shop" 58 9 14 false (tyX8 14) := ⟨_, _, _, _, "ProphecyShop$Shop", coC_9, by decide, wg_362, Or.inl rfl, rfl, (fun h => by cases h), rfl⟩
theorem fg_Shop_18_9 : FLg "ProphecyShop$Shop" 18 9 3 := ⟨_, _, _, _, "ProphecyShop$Shop", coC_9, by decide, wg_348, Or.inl rfl⟩
theorem fg_Shop_37_9 : FLg "ProphecyShop$Shop" 37 9 7 := ⟨_, _, _, _, "ProphecyShop$Shop", coC_9, by decide, wg_353, Or.inl rfl⟩
theorem fg_Shop_43_9 : FLg "ProphecyShop$Shop" 43 9 9 := ⟨_, _, _, _, "ProphecyShop$Shop", coC_9, by decide, wg_356, Or.inl rfl⟩
theorem fg_Shop_46_9 : FLg "ProphecyShop$Shop" 46 9 10 := ⟨_, _, _, _, "ProphecyShop$Shop", coC_9, by decide, wg_357, Or.inl rfl⟩
theorem fg_Shop_49_9 : FLg "ProphecyShop$Shop" 49 9 11 := ⟨_, _, _, _, "ProphecyShop$Shop", coC_9, by decide, wg_358, Or.inl rfl⟩
theorem fg_Shop_24_9 : FLg "ProphecyShop$Shop" 24 9 4 := ⟨_, _, _, _, "ProphecyShop$Shop", coC_9, by decide, wg_349, Or.inl rfl⟩
theorem fg_Shop_33_9 : FLg "ProphecyShop$Shop" 33 9 6 := ⟨_, _, _, _, "ProphecyShop$Shop", coC_9, by decide, wg_352, Or.inl rfl⟩
theorem fg_History_17_2 : FLg "ProphecyShop$History" 17 2 1 := ⟨_, _, _, _, "ProphecyShop$History", coC_2, by decide, wg_405, Or.inl rfl⟩
theorem fg_Text_15_11 : FLg "ProphecyShop$Text" 15 11 1 := ⟨_, _, _, _, "ProphecyShop$Text", coC_11, by decide, wg_48, Or.inl rfl⟩
theorem fg_Text_9_11 : FLg "ProphecyShop$Text" 9 11 0 := ⟨_, _, _, _, "ProphecyShop$Text", coC_11, by decide, wg_47, Or.inl rfl⟩
theorem fl_Text_15_11 : FL "ProphecyShop$Text" 15 11 1 false (tyX10 1) := ⟨_, _, _, _, "ProphecyShop$Text", coC_11, by decide, wg_48, Or.inl rfl, rfl, (fun h => by cases h), rfl⟩
theorem fg_Shop_119_5 : FLg "ProphecyShop$Shop" 119 5 1 := ⟨_, _, _, _, "ProphecyShop$Prophecy", coC_5, by decide, wg_272, Or.inl rfl⟩
theorem fg_Shop_165_7 : FLg "ProphecyShop$Shop" 165 7 3 := ⟨_, _, _, _, "ProphecyShop$Setup", coC_7, by decide, wg_203, Or.inl rfl⟩
theorem fg_Shop_162_7 : FLg "ProphecyShop$Shop" 162 7 4 := ⟨_, _, _, _, "ProphecyShop$Setup", coC_7, by decide, wg_206, Or.inl rfl⟩
theorem fg_Shop_134_5 : FLg "ProphecyShop$Shop" 134 5 6 := ⟨_, _, _, _, "ProphecyShop$Prophecy", coC_5, by decide, wg_287, Or.inl rfl⟩
theorem fg_Shop_137_5 : FLg "ProphecyShop$Shop" 137 5 7 := ⟨_, _, _, _, "ProphecyShop$Prophecy", coC_5, by decide, wg_289, Or.inl rfl⟩
theorem fg_Shop_168_5 : FLg "ProphecyShop$Shop" 168 5 8 := ⟨_, _, _, _, "ProphecyShop$Prophecy", coC_5, by decide, wg_292, Or.inl rfl⟩
theorem fg_Shop_171_7 : FLg "ProphecyShop$Shop" 171 7 2 := ⟨_, _, _, _, "ProphecyShop$Setup", coC_7, by decide, wg_200, Or.inl rfl⟩
theorem fg_Shop_213_7 : FLg "ProphecyShop$Shop" 213 7 11 := ⟨_, _, _, _, "ProphecyShop$Setup", coC_7, by decide, wg_226, Or.inl rfl⟩
theorem fg_Shop_216_4 : FLg "ProphecyShop$Shop" 216 4 0 := ⟨_, _, _, _, "ProphecyShop$Owl", coC_4, by decide, wg_324, Or.inl rfl⟩
theorem fg_Names_15_3 : FLg "ProphecyShop$Names" 15 3 1 := ⟨_, _, _, _, "ProphecyShop$Names", coC_3, by decide, wg_184, Or.inl rfl⟩
theorem fg_Setup_50_7 : FLg "ProphecyShop$Setup" 50 7 11 := ⟨_, _, _, _, "ProphecyShop$Setup", coC_7, by decide, wg_225, Or.inl rfl⟩
theorem fg_Setup_47_7 : FLg "ProphecyShop$Setup" 47 7 10 := ⟨_, _, _, _, "ProphecyShop$Setup", coC_7, by decide, wg_224, Or.inl rfl⟩
theorem fg_Setup_37_7 : FLg "ProphecyShop$Setup" 37 7 7 := ⟨_, _, _, _, "ProphecyShop$Setup", coC_7, by decide, wg_217, Or.inl rfl⟩
theorem fg_Setup_44_7 : FLg "ProphecyShop$Setup" 44 7 9 := ⟨_, _, _, _, "ProphecyShop$Setup", coC_7, by decide, wg_223, Or.inl rfl⟩
theorem fl_Shop_137_5 : FL "ProphecyShop$Shop" 137 5 7 false (tyX3 7) := ⟨_, _, _, _, "ProphecyShop$Prophecy", coC_5, by decide, wg_289, Or.inl rfl, rfl, (fun h => by cases h), rfl⟩
theorem fg_Shop_116_5 : FLg "ProphecyShop$Shop" 116 5 0 := ⟨_, _, _, _, "ProphecyShop$Prophecy", coC_5, by decide, wg_269, Or.inl rfl⟩
theorem fl_Shop_140_5 : FL "ProphecyShop$Shop" 140 5 9 false (tyX3 9) := ⟨_, _, _, _, "ProphecyShop$Prophecy", coC_5, by decide, wg_295, Or.inl rfl, rfl, (fun h => by cases h), rfl⟩
theorem fg_Shop_231_7 : FLg "ProphecyShop$Shop" 231 7 1 := ⟨_, _, _, _, "ProphecyShop$Setup", coC_7, by decide, wg_197, Or.inl rfl⟩
theorem fg_ProphecyShop_47_12 : FLg "ProphecyShop" 47 12 5 := ⟨_, _, _, _, "ProphecyShop", coC_12, by decide, wg_645, Or.inl rfl⟩
theorem fg_ProphecyShop_57_12 : FLg "ProphecyShop" 57 12 7 := ⟨_, _, _, _, "ProphecyShop", coC_12, by decide, wg_647, Or.inl rfl⟩
theorem fg_ProphecyShop_246_5 : FLg "ProphecyShop" 246 5 9 := ⟨_, _, _, _, "ProphecyShop$Prophecy", coC_5, by decide, wg_296, Or.inl rfl⟩
theorem fg_ProphecyShop_10_12 : FLg "ProphecyShop" 10 12 0 := ⟨_, _, _, _, "ProphecyShop", coC_12, by decide, wg_640, Or.inl rfl⟩
theorem fg_ProphecyShop_149_9 : FLg "ProphecyShop" 149 9 2 := ⟨_, _, _, _, "ProphecyShop$Shop", coC_9, by decide, wg_347, Or.inl rfl⟩
theorem fg_ProphecyShop_51_12 : FLg "ProphecyShop" 51 12 6 := ⟨_, _, _, _, "ProphecyShop", coC_12, by decide, wg_646, Or.inl rfl⟩
theorem fg_Setup_40_7 : FLg "ProphecyShop$Setup" 40 7 8 := ⟨_, _, _, _, "ProphecyShop$Setup", coC_7, by decide, wg_222, Or.inl rfl⟩
theorem fg_Setup_9_7 : FLg "ProphecyShop$Setup" 9 7 0 := ⟨_, _, _, _, "ProphecyShop$Setup", coC_7, by decide, wg_192, Or.inl rfl⟩
theorem fg_Setup_53_3 : FLg "ProphecyShop$Setup" 53 3 1 := ⟨_, _, _, _, "ProphecyShop$Names", coC_3, by decide, wg_185, Or.inl rfl⟩
theorem fg_Shop_241_4 : FLg "ProphecyShop$Shop" 241 4 1 := ⟨_, _, _, _, "ProphecyShop$Owl", coC_4, by decide, wg_328, Or.inl rfl⟩
theorem fg_ProphecyShop_35_12 : FLg "ProphecyShop" 35 12 3 := ⟨_, _, _, _, "ProphecyShop", coC_12, by decide, wg_643, Or.inl rfl⟩
theorem fg_ProphecyShop_275_9 : FLg "ProphecyShop" 275 9 14 := ⟨_, _, _, _, "ProphecyShop$Shop", coC_9, by decide, wg_363, Or.inl rfl⟩
theorem fg_ProphecyShop_164_7 : FLg "ProphecyShop" 164 7 7 := ⟨_, _, _, _, "ProphecyShop$Setup", coC_7, by decide, wg_221, Or.inl rfl⟩
theorem fg_ProphecyShop_156_3 : FLg "ProphecyShop" 156 3 1 := ⟨_, _, _, _, "ProphecyShop$Names", coC_3, by decide, wg_186, Or.inl rfl⟩
theorem fg_ProphecyShop_202_5 : FLg "ProphecyShop" 202 5 0 := ⟨_, _, _, _, "ProphecyShop$Prophecy", coC_5, by decide, wg_270, Or.inl rfl⟩
theorem fg_ProphecyShop_146_9 : FLg "ProphecyShop" 146 9 1 := ⟨_, _, _, _, "ProphecyShop$Shop", coC_9, by decide, wg_345, Or.inl rfl⟩
theorem fg_ProphecyShop_222_5 : FLg "ProphecyShop" 222 5 7 := ⟨_, _, _, _, "ProphecyShop$Prophecy", coC_5, by decide, wg_290, Or.inl rfl⟩
theorem fg_ProphecyShop_219_5 : FLg "ProphecyShop" 219 5 5 := ⟨_, _, _, _, "ProphecyShop$Prophecy", coC_5, by decide, wg_285, Or.inl rfl⟩
theorem fg_ProphecyShop_230_5 : FLg "ProphecyShop" 230 5 8 := ⟨_, _, _, _, "ProphecyShop$Prophecy", coC_5, by decide, wg_293, Or.inl rfl⟩
theorem fg_ProphecyShop_69_12 : FLg "ProphecyShop" 69 12 10 := ⟨_, _, _, _, "ProphecyShop", coC_12, by decide, wg_650, Or.inl rfl⟩
theorem fg_ProphecyShop_73_12 : FLg "ProphecyShop" 73 12 11 := ⟨_, _, _, _, "ProphecyShop", coC_12, by decide, wg_651, Or.inl rfl⟩
theorem fg_ProphecyShop_152_7 : FLg "ProphecyShop" 152 7 5 := ⟨_, _, _, _, "ProphecyShop$Setup", coC_7, by decide, wg_211, Or.inl rfl⟩
theorem fg_ProphecyShop_207_5 : FLg "ProphecyShop" 207 5 2 := ⟨_, _, _, _, "ProphecyShop$Prophecy", coC_5, by decide, wg_276, Or.inl rfl⟩
theorem fg_Names_9_3 : FLg "ProphecyShop$Names" 9 3 0 := ⟨_, _, _, _, "ProphecyShop$Names", coC_3, by decide, wg_183, Or.inl rfl⟩
theorem fg_ProphecyShop_216_5 : FLg "ProphecyShop" 216 5 4 := ⟨_, _, _, _, "ProphecyShop$Prophecy", coC_5, by decide, wg_282, Or.inl rfl⟩
theorem fg_ProphecyShop_272_9 : FLg "ProphecyShop" 272 9 13 := ⟨_, _, _, _, "ProphecyShop$Shop", coC_9, by decide, wg_361, Or.inl rfl⟩
theorem fg_Shop_106_7 : FLg "ProphecyShop$Shop" 106 7 5 := ⟨_, _, _, _, "ProphecyShop$Setup", coC_7, by decide, wg_210, Or.inl rfl⟩
theorem fg_Shop_94_7 : FLg "ProphecyShop$Shop" 94 7 6 := ⟨_, _, _, _, "ProphecyShop$Setup", coC_7, by decide, wg_215, Or.inl rfl⟩
theorem fg_Shop_128_5 : FLg "ProphecyShop$Shop" 128 5 4 := ⟨_, _, _, _, "ProphecyShop$Prophecy", coC_5, by decide, wg_281, Or.inl rfl⟩
theorem fg_ProphecyShop_161_7 : FLg "ProphecyShop" 161 7 6 := ⟨_, _, _, _, "ProphecyShop$Setup", coC_7, by decide, wg_216, Or.inl rfl⟩
theorem fg_ProphecyShop_252_7 : FLg "ProphecyShop" 252 7 11 := ⟨_, _, _, _, "ProphecyShop$Setup", coC_7, by decide, wg_227, Or.inl rfl⟩
theorem fg_ProphecyShop_259_4 : FLg "ProphecyShop" 259 4 0 := ⟨_, _, _, _, "ProphecyShop$Owl", coC_4, by decide, wg_325, Or.inl rfl⟩
theorem fg_ProphecyShop_213_5 : FLg "ProphecyShop" 213 5 1 := ⟨_, _, _, _, "ProphecyShop$Prophecy", coC_5, by decide, wg_273, Or.inl rfl⟩
theorem fg_Setup_30_7 : FLg "ProphecyShop$Setup" 30 7 5 := ⟨_, _, _, _, "ProphecyShop$Setup", coC_7, by decide, wg_207, Or.inl rfl⟩
theorem fl_Setup_53_3 : FL "ProphecyShop$Setup" 53 3 1 false (tyX1 1) := ⟨_, _, _, _, "ProphecyShop$Names", coC_3, by decide, wg_185, Or.inl rfl, rfl, (fun h => by cases h), rfl⟩
theorem fg_Setup_34_7 : FLg "ProphecyShop$Setup" 34 7 6 := ⟨_, _, _, _, "ProphecyShop$Setup", coC_7, by decide, wg_212, Or.inl rfl⟩
theorem fl_Setup_50_7 : FL "ProphecyShop$Setup" 50 7 11 false (tyX6 11) := ⟨_, _, _, _, "ProphecyShop$Setup", coC_7, by decide, wg_225, Or.inl rfl, rfl, (fun h => by cases h), rfl⟩
theorem fg_Reader_18_8 : FLg "ProphecyShop$Reader" 18 8 3 := ⟨_, _, _, _, "ProphecyShop$Reader", coC_8, by decide, wg_67, Or.inl rfl⟩
theorem fl_Reader_15_8 : FL "ProphecyShop$Reader" 15 8 2 false (tyX7 2) := ⟨_, _, _, _, "ProphecyShop$Reader", coC_8, by decide, wg_66, Or.inl rfl, rfl, (fun h => by cases h), rfl⟩
theorem fg_Reader_15_8 : FLg "ProphecyShop$Reader" 15 8 2 := ⟨_, _, _, _, "ProphecyShop$Reader", coC_8, by decide, wg_66, Or.inl rfl⟩
theorem fg_Reader_27_8 : FLg "ProphecyShop$Reader" 27 8 0 := ⟨_, _, _, _, "ProphecyShop$Reader", coC_8, by decide, wg_64, Or.inl rfl⟩
theorem fl_Reader_11_8 : FL "ProphecyShop$Reader" 11 8 1 false (tyX7 1) := ⟨_, _, _, _, "ProphecyShop$Reader", coC_8, by decide, wg_65, Or.inl rfl, rfl, (fun h => by cases h), rfl⟩
theorem fg_Reader_11_8 : FLg "ProphecyShop$Reader" 11 8 1 := ⟨_, _, _, _, "ProphecyShop$Reader", coC_8, by decide, wg_65, Or.inl rfl⟩
theorem fl_Reader_18_8 : FL "ProphecyShop$Reader" 18 8 3 false (tyX7 3) := ⟨_, _, _, _, "ProphecyShop$Reader", coC_8, by decide, wg_67, Or.inl rfl, rfl, (fun h => by cases h), rfl⟩
theorem fg_Reader_18_6 : FLg "ProphecyShop$Reader" 18 6 3 := ⟨_, _, _, _, "ProphecyShop$Reader", coC_6, by decide, wg_67, Or.inl rfl⟩
theorem fl_Reader_15_6 : FL "ProphecyShop$Reader" 15 6 2 false (tyX5 2) := ⟨_, _, _, _, "ProphecyShop$Reader", coC_6, by decide, wg_66, Or.inl rfl, rfl, (fun h => by cases h), rfl⟩
theorem fg_Reader_15_6 : FLg "ProphecyShop$Reader" 15 6 2 := ⟨_, _, _, _, "ProphecyShop$Reader", coC_6, by decide, wg_66, Or.inl rfl⟩
theorem fg_Reader_27_6 : FLg "ProphecyShop$Reader" 27 6 0 := ⟨_, _, _, _, "ProphecyShop$Reader", coC_6, by decide, wg_64, Or.inl rfl⟩
theorem fl_Reader_11_6 : FL "ProphecyShop$Reader" 11 6 1 false (tyX5 1) := ⟨_, _, _, _, "ProphecyShop$Reader", coC_6, by decide, wg_65, Or.inl rfl, rfl, (fun h => by cases h), rfl⟩
theorem fg_Reader_11_6 : FLg "ProphecyShop$Reader" 11 6 1 := ⟨_, _, _, _, "ProphecyShop$Reader", coC_6, by decide, wg_65, Or.inl rfl⟩
theorem fl_Reader_18_6 : FL "ProphecyShop$Reader" 18 6 3 false (tyX5 3) := ⟨_, _, _, _, "ProphecyShop$Reader", coC_6, by decide, wg_67, Or.inl rfl, rfl, (fun h => by cases h), rfl⟩
theorem fl_Reader_21_8 : FL "ProphecyShop$Reader" 21 8 4 false (tyX7 4) := ⟨_, _, _, _, "ProphecyShop$Reader", coC_8, by decide, wg_68, Or.inl rfl, rfl, (fun h => by cases h), rfl⟩
theorem fl_Reader_24_8 : FL "ProphecyShop$Reader" 24 8 5 false (tyX7 5) := ⟨_, _, _, _, "ProphecyShop$Reader", coC_8, by decide, wg_73, Or.inl rfl, rfl, (fun h => by cases h), rfl⟩
theorem fl_Reader_21_6 : FL "ProphecyShop$Reader" 21 6 4 false (tyX5 4) := ⟨_, _, _, _, "ProphecyShop$Reader", coC_6, by decide, wg_68, Or.inl rfl, rfl, (fun h => by cases h), rfl⟩
theorem fl_Reader_24_6 : FL "ProphecyShop$Reader" 24 6 5 false (tyX5 5) := ⟨_, _, _, _, "ProphecyShop$Reader", coC_6, by decide, wg_73, Or.inl rfl, rfl, (fun h => by cases h), rfl⟩
theorem fg_Reader_21_8 : FLg "ProphecyShop$Reader" 21 8 4 := ⟨_, _, _, _, "ProphecyShop$Reader", coC_8, by decide, wg_68, Or.inl rfl⟩
theorem fg_Reader_21_6 : FLg "ProphecyShop$Reader" 21 6 4 := ⟨_, _, _, _, "ProphecyShop$Reader", coC_6, by decide, wg_68, Or.inl rfl⟩
theorem fl_SetupReader_68_7 : FL "ProphecyShop$SetupReader" 68 7 0 false (tyX6 0) := ⟨_, _, _, _, "ProphecyShop$Setup", coC_7, by decide, wg_194, Or.inl rfl, rfl, (fun h => by cases h), rfl⟩
theorem fl_SetupReader_71_7 : FL "ProphecyShop$SetupReader" 71 7 1 false (tyX6 1) := ⟨_, _, _, _, "ProphecyShop$Setup", coC_7, by decide, wg_196, Or.inl rfl, rfl, (fun h => by cases h), rfl⟩
theorem fl_SetupReader_74_7 : FL "ProphecyShop$SetupReader" 74 7 2 false (tyX6 2) := ⟨_, _, _, _, "ProphecyShop$Setup", coC_7, by decide, wg_199, Or.inl rfl, rfl, (fun h => by cases h), rfl⟩
theorem fl_SetupReader_77_7 : FL "ProphecyShop$SetupReader" 77 7 3 false (tyX6 3) := ⟨_, _, _, _, "ProphecyShop$Setup", coC_7, by decide, wg_202, Or.inl rfl, rfl, (fun h => by cases h), rfl⟩
theorem fl_SetupReader_80_7 : FL "ProphecyShop$SetupReader" 80 7 4 false (tyX6 4) := ⟨_, _, _, _, "ProphecyShop$Setup", coC_7, by decide, wg_205, Or.inl rfl, rfl, (fun h => by cases h), rfl⟩
theorem fl_Names_15_3 : FL "ProphecyShop$Names" 15 3 1 false (tyX1 1) := ⟨_, _, _, _, "ProphecyShop$Names", coC_3, by decide, wg_184, Or.inl rfl, rfl, (fun h => by cases h), rfl⟩
theorem fg_SetupReader_106_7 : FLg "ProphecyShop$SetupReader" 106 7 7 := ⟨_, _, _, _, "ProphecyShop$Setup", coC_7, by decide, wg_218, Or.inl rfl⟩
theorem fg_SetupReader_26_7 : FLg "ProphecyShop$SetupReader" 26 7 5 := ⟨_, _, _, _, "ProphecyShop$Setup", coC_7, by decide, wg_208, Or.inl rfl⟩
theorem fg_SetupReader_36_7 : FLg "ProphecyShop$SetupReader" 36 7 6 := ⟨_, _, _, _, "ProphecyShop$Setup", coC_7, by decide, wg_213, Or.inl rfl⟩
theorem fg_SetupReader_53_8 : FLg "ProphecyShop$SetupReader" 53 8 4 := ⟨_, _, _, _, "ProphecyShop$SetupReader", coC_8, by decide, wg_71, Or.inr wg_72⟩
theorem fg_Shop_67_7 : FLg "ProphecyShop$Shop" 67 7 0 := ⟨_, _, _, _, "ProphecyShop$Setup", coC_7, by decide, wg_193, Or.inl rfl⟩
theorem fg_ProphecyShop_21_12 : FLg "ProphecyShop" 21 12 1 := ⟨_, _, _, _, "ProphecyShop", coC_12, by decide, wg_641, Or.inl rfl⟩
theorem fg_ProphecyShop_39_12 : FLg "ProphecyShop" 39 12 4 := ⟨_, _, _, _, "ProphecyShop", coC_12, by decide, wg_644, Or.inl rfl⟩
theorem fl_ProphecyShop_35_12 : FL "ProphecyShop" 35 12 3 false (tyX11 3) := ⟨_, _, _, _, "ProphecyShop", coC_12, by decide, wg_643, Or.inl rfl, rfl, (fun h => by cases h), rfl⟩
theorem fl_ProphecyShop_39_12 : FL "ProphecyShop" 39 12 4 false (tyX11 4) := ⟨_, _, _, _, "ProphecyShop", coC_12, by decide, wg_644, Or.inl rfl, rfl, (fun h => by cases h), rfl⟩
theorem fl_ProphecyShop_348_2 : FL "ProphecyShop" 348 2 1 false (tyX0 1) := ⟨_, _, _, _, "ProphecyShop$History", coC_2, by decide, wg_406, Or.inl rfl, rfl, (fun h => by cases h), rfl⟩
theorem fg_ProphecyShop_65_12 : FLg "ProphecyShop" 65 12 9 := ⟨_, _, _, _, "ProphecyShop", coC_12, by decide, wg_649, Or.inl rfl⟩
theorem fl_ProphecyShop_69_12 : FL "ProphecyShop" 69 12 10 false (tyX11 10) := ⟨_, _, _, _, "ProphecyShop", coC_12, by decide, wg_650, Or.inl rfl, rfl, (fun h => by cases h), rfl⟩
theorem fg_ProphecyShop_130_8 : FLg "ProphecyShop" 130 8 5 := ⟨_, _, _, _, "ProphecyShop$SetupReader", coC_8, by decide, wg_74, Or.inr wg_75⟩
theorem fl_ProphecyShop_73_12 : FL "ProphecyShop" 73 12 11 false (tyX11 11) := ⟨_, _, _, _, "ProphecyShop", coC_12, by decide, wg_651, Or.inl rfl, rfl, (fun h => by cases h), rfl⟩
theorem fg_ProphecyShop_195_9 : FLg "ProphecyShop" 195 9 5 := ⟨_, _, _, _, "ProphecyShop$Shop", coC_9, by decide, wg_351, Or.inl rfl⟩
theorem fg_ProphecyShop_264_4 : FLg "ProphecyShop" 264 4 1 := ⟨_, _, _, _, "ProphecyShop$Owl", coC_4, by decide, wg_327, Or.inl rfl⟩
theorem fg_ProphecyShop_210_5 : FLg "ProphecyShop" 210 5 3 := ⟨_, _, _, _, "ProphecyShop$Prophecy", coC_5, by decide, wg_279, Or.inl rfl⟩
theorem fg_ProphecyShop_237_9 : FLg "ProphecyShop" 237 9 8 := ⟨_, _, _, _, "ProphecyShop$Shop", coC_9, by decide, wg_355, Or.inl rfl⟩
theorem fg_ProphecyShop_61_12 : FLg "ProphecyShop" 61 12 8 := ⟨_, _, _, _, "ProphecyShop", coC_12, by decide, wg_648, Or.inl rfl⟩
theorem fg_Script_17_6 : FLg "ProphecyShop$Script" 17 6 7 := ⟨_, _, _, _, "ProphecyShop$Script", coC_6, by decide, wg_150, Or.inl rfl⟩
theorem fg_Script_13_6 : FLg "ProphecyShop$Script" 13 6 6 := ⟨_, _, _, _, "ProphecyShop$Script", coC_6, by decide, wg_149, Or.inl rfl⟩
theorem fl_Script_106_10 : FL "ProphecyShop$Script" 106 10 0 false (tyX9 0) := ⟨_, _, _, _, "ProphecyShop$Step", coC_10, by decide, wg_105, Or.inl rfl, rfl, (fun h => by cases h), rfl⟩
theorem fl_Script_17_6 : FL "ProphecyShop$Script" 17 6 7 false (tyX5 7) := ⟨_, _, _, _, "ProphecyShop$Script", coC_6, by decide, wg_150, Or.inl rfl, rfl, (fun h => by cases h), rfl⟩
theorem fg_Script_28_6 : FLg "ProphecyShop$Script" 28 6 10 := ⟨_, _, _, _, "ProphecyShop$Script", coC_6, by decide, wg_153, Or.inl rfl⟩
theorem fl_Script_28_6 : FL "ProphecyShop$Script" 28 6 10 false (tyX5 10) := ⟨_, _, _, _, "ProphecyShop$Script", coC_6, by decide, wg_153, Or.inl rfl, rfl, (fun h => by cases h), rfl⟩
theorem fg_Script_24_6 : FLg "ProphecyShop$Script" 24 6 9 := ⟨_, _, _, _, "ProphecyShop$Script", coC_6, by decide, wg_152, Or.inl rfl⟩
theorem fl_Script_160_10 : FL "ProphecyShop$Script" 160 10 9 false (tyX9 9) := ⟨_, _, _, _, "ProphecyShop$Step", coC_10, by decide, wg_123, Or.inl rfl, rfl, (fun h => by cases h), rfl⟩
theorem fg_Script_21_6 : FLg "ProphecyShop$Script" 21 6 8 := ⟨_, _, _, _, "ProphecyShop$Script", coC_6, by decide, wg_151, Or.inl rfl⟩
theorem fl_Script_21_6 : FL "ProphecyShop$Script" 21 6 8 false (tyX5 8) := ⟨_, _, _, _, "ProphecyShop$Script", coC_6, by decide, wg_151, Or.inl rfl, rfl, (fun h => by cases h), rfl⟩
theorem fg_Script_109_7 : FLg "ProphecyShop$Script" 109 7 7 := ⟨_, _, _, _, "ProphecyShop$Setup", coC_7, by decide, wg_219, Or.inl rfl⟩
theorem fl_Script_119_10 : FL "ProphecyShop$Script" 119 10 1 false (tyX9 1) := ⟨_, _, _, _, "ProphecyShop$Step", coC_10, by decide, wg_107, Or.inl rfl, rfl, (fun h => by cases h), rfl⟩
theorem fl_Script_126_10 : FL "ProphecyShop$Script" 126 10 2 false (tyX9 2) := ⟨_, _, _, _, "ProphecyShop$Step", coC_10, by decide, wg_109, Or.inl rfl, rfl, (fun h => by cases h), rfl⟩
theorem fg_Script_129_7 : FLg "ProphecyShop$Script" 129 7 5 := ⟨_, _, _, _, "ProphecyShop$Setup", coC_7, by decide, wg_209, Or.inl rfl⟩
theorem fl_Script_132_10 : FL "ProphecyShop$Script" 132 10 3 false (tyX9 3) := ⟨_, _, _, _, "ProphecyShop$Step", coC_10, by decide, wg_111, Or.inl rfl, rfl, (fun h => by cases h), rfl⟩
theorem fg_Script_126_10 : FLg "ProphecyShop$Script" 126 10 2 := ⟨_, _, _, _, "ProphecyShop$Step", coC_10, by decide, wg_109, Or.inl rfl⟩
theorem fg_Script_135_7 : FLg "ProphecyShop$Script" 135 7 6 := ⟨_, _, _, _, "ProphecyShop$Setup", coC_7, by decide, wg_214, Or.inl rfl⟩
theorem fl_Script_138_10 : FL "ProphecyShop$Script" 138 10 4 false (tyX9 4) := ⟨_, _, _, _, "ProphecyShop$Step", coC_10, by decide, wg_113, Or.inl rfl, rfl, (fun h => by cases h), rfl⟩
theorem fl_Script_141_10 : FL "ProphecyShop$Script" 141 10 5 false (tyX9 5) := ⟨_, _, _, _, "ProphecyShop$Step", coC_10, by decide, wg_115, Or.inl rfl, rfl, (fun h => by cases h), rfl⟩
theorem fl_Script_144_10 : FL "ProphecyShop$Script" 144 10 6 false (tyX9 6) := ⟨_, _, _, _, "ProphecyShop$Step", coC_10, by decide, wg_117, Or.inl rfl, rfl, (fun h => by cases h), rfl⟩
theorem fl_Script_147_10 : FL "ProphecyShop$Script" 147 10 7 false (tyX9 7) := ⟨_, _, _, _, "ProphecyShop$Step", coC_10, by decide, wg_119, Or.inl rfl, rfl, (fun h => by cases h), rfl⟩
theorem fg_Script_37_6 : FLg "ProphecyShop$Script" 37 6 4 := ⟨_, _, _, _, "ProphecyShop$Script", coC_6, by decide, wg_69, Or.inr wg_70⟩
theorem fl_Script_84_10 : FL "ProphecyShop$Script" 84 10 8 false (tyX9 8) := ⟨_, _, _, _, "ProphecyShop$Step", coC_10, by decide, wg_121, Or.inl rfl, rfl, (fun h => by cases h), rfl⟩
theorem fg_Shop_103_7 : FLg "ProphecyShop$Shop" 103 7 7 := ⟨_, _, _, _, "ProphecyShop$Setup", coC_7, by decide, wg_220, Or.inl rfl⟩
theorem fg_Script_106_10 : FLg "ProphecyShop$Script" 106 10 0 := ⟨_, _, _, _, "ProphecyShop$Step", coC_10, by decide, wg_105, Or.inl rfl⟩
theorem fg_Script_119_10 : FLg "ProphecyShop$Script" 119 10 1 := ⟨_, _, _, _, "ProphecyShop$Step", coC_10, by decide, wg_107, Or.inl rfl⟩
theorem fg_Script_132_10 : FLg "ProphecyShop$Script" 132 10 3 := ⟨_, _, _, _, "ProphecyShop$Step", coC_10, by decide, wg_111, Or.inl rfl⟩
theorem fg_Script_138_10 : FLg "ProphecyShop$Script" 138 10 4 := ⟨_, _, _, _, "ProphecyShop$Step", coC_10, by decide, wg_113, Or.inl rfl⟩
theorem fg_Script_141_10 : FLg "ProphecyShop$Script" 141 10 5 := ⟨_, _, _, _, "ProphecyShop$Step", coC_10, by decide, wg_115, Or.inl rfl⟩
theorem fg_Script_144_10 : FLg "ProphecyShop$Script" 144 10 6 := ⟨_, _, _, _, "ProphecyShop$Step", coC_10, by decide, wg_117, Or.inl rfl⟩
theorem fg_Script_147_10 : FLg "ProphecyShop$Script" 147 10 7 := ⟨_, _, _, _, "ProphecyShop$Step", coC_10, by decide, wg_119, Or.inl rfl⟩
theorem fg_Script_84_10 : FLg "ProphecyShop$Script" 84 10 8 := ⟨_, _, _, _, "ProphecyShop$Step", coC_10, by decide, wg_121, Or.inl rfl⟩
theorem fl_Shop_116_5 : FL "ProphecyShop$Shop" 116 5 0 false (tyX3 0) := ⟨_, _, _, _, "ProphecyShop$Prophecy", coC_5, by decide, wg_269, Or.inl rfl, rfl, (fun h => by cases h), rfl⟩
theorem fl_Shop_119_5 : FL "ProphecyShop$Shop" 119 5 1 false (tyX3 1) := ⟨_, _, _, _, "ProphecyShop$Prophecy", coC_5, by decide, wg_272, Or.inl rfl, rfl, (fun h => by cases h), rfl⟩
theorem fl_Shop_122_5 : FL "ProphecyShop$Shop" 122 5 2 false (tyX3 2) := ⟨_, _, _, _, "ProphecyShop$Prophecy", coC_5, by decide, wg_275, Or.inl rfl, rfl, (fun h => by cases h), rfl⟩
theorem fl_Shop_125_5 : FL "ProphecyShop$Shop" 125 5 3 false (tyX3 3) := ⟨_, _, _, _, "ProphecyShop$Prophecy", coC_5, by decide, wg_278, Or.inl rfl, rfl, (fun h => by cases h), rfl⟩
theorem fl_Shop_128_5 : FL "ProphecyShop$Shop" 128 5 4 false (tyX3 4) := ⟨_, _, _, _, "ProphecyShop$Prophecy", coC_5, by decide, wg_281, Or.inl rfl, rfl, (fun h => by cases h), rfl⟩
theorem fl_Shop_131_5 : FL "ProphecyShop$Shop" 131 5 5 false (tyX3 5) := ⟨_, _, _, _, "ProphecyShop$Prophecy", coC_5, by decide, wg_284, Or.inl rfl, rfl, (fun h => by cases h), rfl⟩
theorem fl_Shop_134_5 : FL "ProphecyShop$Shop" 134 5 6 false (tyX3 6) := ⟨_, _, _, _, "ProphecyShop$Prophecy", coC_5, by decide, wg_287, Or.inl rfl, rfl, (fun h => by cases h), rfl⟩
theorem fg_Script_160_10 : FLg "ProphecyShop$Script" 160 10 9 := ⟨_, _, _, _, "ProphecyShop$Step", coC_10, by decide, wg_123, Or.inl rfl⟩
theorem fg_Script_167_10 : FLg "ProphecyShop$Script" 167 10 10 := ⟨_, _, _, _, "ProphecyShop$Step", coC_10, by decide, wg_125, Or.inl rfl⟩
theorem fl_Script_167_10 : FL "ProphecyShop$Script" 167 10 10 false (tyX9 10) := ⟨_, _, _, _, "ProphecyShop$Step", coC_10, by decide, wg_125, Or.inl rfl, rfl, (fun h => by cases h), rfl⟩
theorem fg_ProphecyShop_28_12 : FLg "ProphecyShop" 28 12 2 := ⟨_, _, _, _, "ProphecyShop", coC_12, by decide, wg_642, Or.inl rfl⟩
theorem fg_ProphecyShop_137_6 : FLg "ProphecyShop" 137 6 5 := ⟨_, _, _, _, "ProphecyShop$Script", coC_6, by decide, wg_76, Or.inr wg_77⟩
theorem fg_ProphecyShop_348_2 : FLg "ProphecyShop" 348 2 1 := ⟨_, _, _, _, "ProphecyShop$History", coC_2, by decide, wg_406, Or.inl rfl⟩
theorem fg_ProphecyShopModel_233_13 : FLg "ProphecyShopModel" 233 13 6 := ⟨_, _, _, _, "ProphecyShopModel", coC_13, by decide, wg_1808, Or.inl rfl⟩
theorem fl_ProphecyShopModel_233_13 : FL "ProphecyShopModel" 233 13 6 false (tyX12 6) := ⟨_, _, _, _, "ProphecyShopModel", coC_13, by decide, wg_1808, Or.inl rfl, rfl, (fun h => by cases h), rfl⟩
theorem fg_ProphecyShopModel_19_13 : FLg "ProphecyShopModel" 19 13 3 := ⟨_, _, _, _, "ProphecyShopModel", coC_13, by decide, wg_1805, Or.inl rfl⟩
theorem fg_ProphecyShopModel_7_13 : FLg "ProphecyShopModel" 7 13 0 := ⟨_, _, _, _, "ProphecyShopModel", coC_13, by decide, wg_1802, Or.inl rfl⟩
theorem fg_ProphecyShopModel_320_13 : FLg "ProphecyShopModel" 320 13 22 := ⟨_, _, _, _, "ProphecyShopModel", coC_13, by decide, wg_1824, Or.inl rfl⟩
theorem fg_ProphecyShopModel_64_13 : FLg "ProphecyShopModel" 64 13 9 := ⟨_, _, _, _, "ProphecyShopModel", coC_13, by decide, wg_1811, Or.inl rfl⟩
theorem fg_ProphecyShopModel_29_13 : FLg "ProphecyShopModel" 29 13 8 := ⟨_, _, _, _, "ProphecyShopModel", coC_13, by decide, wg_1810, Or.inl rfl⟩
theorem fl_ProphecyShopModel_64_13 : FL "ProphecyShopModel" 64 13 9 false (tyX12 9) := ⟨_, _, _, _, "ProphecyShopModel", coC_13, by decide, wg_1811, Or.inl rfl, rfl, (fun h => by cases h), rfl⟩
theorem fg_ProphecyShopModel_13_13 : FLg "ProphecyShopModel" 13 13 1 := ⟨_, _, _, _, "ProphecyShopModel", coC_13, by decide, wg_1803, Or.inl rfl⟩
theorem fg_ProphecyShopModel_135_13 : FLg "ProphecyShopModel" 135 13 12 := ⟨_, _, _, _, "ProphecyShopModel", coC_13, by decide, wg_1814, Or.inl rfl⟩
theorem fg_ProphecyShopModel_141_13 : FLg "ProphecyShopModel" 141 13 13 := ⟨_, _, _, _, "ProphecyShopModel", coC_13, by decide, wg_1815, Or.inl rfl⟩
theorem fg_ProphecyShopModel_39_13 : FLg "ProphecyShopModel" 39 13 19 := ⟨_, _, _, _, "ProphecyShopModel", coC_13, by decide, wg_1821, Or.inl rfl⟩
theorem fl_ProphecyShopModel_373_13 : FL "ProphecyShopModel" 373 13 23 false (tyX12 23) := ⟨_, _, _, _, "ProphecyShopModel", coC_13, by decide, wg_1825, Or.inl rfl, rfl, (fun h => by cases h), rfl⟩
theorem fl_ProphecyShopModel_376_13 : FL "ProphecyShopModel" 376 13 24 false (tyX12 24) := ⟨_, _, _, _, "ProphecyShopModel", coC_13, by decide, wg_1826, Or.inl rfl, rfl, (fun h => by cases h), rfl⟩
theorem fl_ProphecyShopModel_379_13 : FL "ProphecyShopModel" 379 13 25 false (tyX12 25) := ⟨_, _, _, _, "ProphecyShopModel", coC_13, by decide, wg_1827, Or.inl rfl, rfl, (fun h => by cases h), rfl⟩
theorem fg_ProphecyShopModel_373_13 : FLg "ProphecyShopModel" 373 13 23 := ⟨_, _, _, _, "ProphecyShopModel", coC_13, by decide, wg_1825, Or.inl rfl⟩
theorem fg_ProphecyShopModel_376_13 : FLg "ProphecyShopModel" 376 13 24 := ⟨_, _, _, _, "ProphecyShopModel", coC_13, by decide, wg_1826, Or.inl rfl⟩
theorem fg_ProphecyShopModel_379_13 : FLg "ProphecyShopModel" 379 13 25 := ⟨_, _, _, _, "ProphecyShopModel", coC_13, by decide, wg_1827, Or.inl rfl⟩
theorem fg_ProphecyShopModel_132_13 : FLg "ProphecyShopModel" 132 13 10 := ⟨_, _, _, _, "ProphecyShopModel", coC_13, by decide, wg_1812, Or.inl rfl⟩
theorem fg_ProphecyShopModel_32_13 : FLg "ProphecyShopModel" 32 13 11 := ⟨_, _, _, _, "ProphecyShopModel", coC_13, by decide, wg_1813, Or.inl rfl⟩
theorem fl_ProphecyShopModel_135_13 : FL "ProphecyShopModel" 135 13 12 false (tyX12 12) := ⟨_, _, _, _, "ProphecyShopModel", coC_13, by decide, wg_1814, Or.inl rfl, rfl, (fun h => by cases h), rfl⟩
theorem fl_ProphecyShopModel_141_13 : FL "ProphecyShopModel" 141 13 13 false (tyX12 13) := ⟨_, _, _, _, "ProphecyShopModel", coC_13, by decide, wg_1815, Or.inl rfl, rfl, (fun h => by cases h), rfl⟩
theorem fl_ProphecyShopModel_144_13 : FL "ProphecyShopModel" 144 13 14 false (tyX12 14) := ⟨_, _, _, _, "ProphecyShopModel", coC_13, by decide, wg_1816, Or.inl rfl, rfl, (fun h => by cases h), rfl⟩
theorem fl_ProphecyShopModel_147_13 : FL "ProphecyShopModel" 147 13 15 false (tyX12 15) := ⟨_, _, _, _, "ProphecyShopModel", coC_13, by decide, wg_1817, Or.inl rfl, rfl, (fun h => by cases h), rfl⟩
theorem fg_ProphecyShopModel_147_13 : FLg "ProphecyShopModel" 147 13 15 := ⟨_, _, _, _, "ProphecyShopModel", coC_13, by decide, wg_1817, Or.inl rfl⟩
theorem fl_ProphecyShopModel_132_13 : FL "ProphecyShopModel" 132 13 10 false (tyX12 10) := ⟨_, _, _, _, "ProphecyShopModel", coC_13, by decide, wg_1812, Or.inl rfl, rfl, (fun h => by cases h), rfl⟩
theorem fg_ProphecyShopModel_159_13 : FLg "ProphecyShopModel" 159 13 17 := ⟨_, _, _, _, "ProphecyShopModel", coC_13, by decide, wg_1819, Or.inl rfl⟩
theorem fl_ProphecyShopModel_32_13 : FL "ProphecyShopModel" 32 13 11 false (tyX12 11) := ⟨_, _, _, _, "ProphecyShopModel", coC_13, by decide, wg_1813, Or.inl rfl, rfl, (fun h => by cases h), rfl⟩
theorem fl_ProphecyShopModel_156_13 : FL "ProphecyShopModel" 156 13 16 false (tyX12 16) := ⟨_, _, _, _, "ProphecyShopModel", coC_13, by decide, wg_1818, Or.inl rfl, rfl, (fun h => by cases h), rfl⟩
theorem fl_ProphecyShopModel_159_13 : FL "ProphecyShopModel" 159 13 17 false (tyX12 17) := ⟨_, _, _, _, "ProphecyShopModel", coC_13, by decide, wg_1819, Or.inl rfl, rfl, (fun h => by cases h), rfl⟩
theorem fg_ProphecyShopModel_16_13 : FLg "ProphecyShopModel" 16 13 2 := ⟨_, _, _, _, "ProphecyShopModel", coC_13, by decide, wg_1804, Or.inl rfl⟩
theorem fg_ProphecyShopModel_25_13 : FLg "ProphecyShopModel" 25 13 5 := ⟨_, _, _, _, "ProphecyShopModel", coC_13, by decide, wg_1807, Or.inl rfl⟩
theorem fg_ProphecyShopModel_22_13 : FLg "ProphecyShopModel" 22 13 4 := ⟨_, _, _, _, "ProphecyShopModel", coC_13, by decide, wg_1806, Or.inl rfl⟩
theorem fg_ProphecyShopModel_42_13 : FLg "ProphecyShopModel" 42 13 26 := ⟨_, _, _, _, "ProphecyShopModel", coC_13, by decide, wg_1828, Or.inl rfl⟩
theorem fg_ProphecyShopModel_388_13 : FLg "ProphecyShopModel" 388 13 28 := ⟨_, _, _, _, "ProphecyShopModel", coC_13, by decide, wg_1830, Or.inl rfl⟩
theorem fl_ProphecyShopModel_388_13 : FL "ProphecyShopModel" 388 13 28 false (tyX12 28) := ⟨_, _, _, _, "ProphecyShopModel", coC_13, by decide, wg_1830, Or.inl rfl, rfl, (fun h => by cases h), rfl⟩
theorem fg_ProphecyShopModel_45_13 : FLg "ProphecyShopModel" 45 13 27 := ⟨_, _, _, _, "ProphecyShopModel", coC_13, by decide, wg_1829, Or.inl rfl⟩
theorem hd_R_number : hd0 m_R_number 2 := hd0_of (by decide +kernel) (by decide +kernel) (by decide +kernel) rfl rfl wg_1741
theorem lk_ProphecyShopModel_208 : LV "ProphecyShopModel" 208 13 2 m_R_number := ⟨hd_R_number, rfl, ⟨_, rfl, rfl⟩, wg_1738, wg_1740, ws_33, wg_18⟩
theorem hd_R_lays : hd0 m_R_lays 3 := hd0_of (by decide +kernel) (by decide +kernel) (by decide +kernel) rfl rfl wg_1954
theorem lk_ProphecyShopModel_246 : LV "ProphecyShopModel" 246 13 3 m_R_lays := ⟨hd_R_lays, rfl, ⟨_, rfl, rfl⟩, wg_1951, wg_1953, ws_55, wg_18⟩
theorem hd_R_isSign : hd0 m_R_isSign 1 := hd0_of (by decide +kernel) (by decide +kernel) (by decide +kernel) rfl rfl wg_1749
theorem lk_ProphecyShopModel_165 : LV "ProphecyShopModel" 165 13 1 m_R_isSign := ⟨hd_R_isSign, rfl, ⟨_, rfl, rfl⟩, wg_1746, wg_1748, ws_35, wg_18⟩
theorem hd_R_must : hd0 m_R_must 2 := hd0_of (by decide +kernel) (by decide +kernel) (by decide +kernel) rfl rfl wg_1732
theorem lk_ProphecyShopModel_169 : LV "ProphecyShopModel" 169 13 2 m_R_must := ⟨hd_R_must, rfl, ⟨_, rfl, rfl⟩, wg_1729, wg_1731, ws_31, wg_18⟩
theorem hd_R_goesOn : hd0 m_R_goesOn 0 := hd0_of (by decide +kernel) (by decide +kernel) (by decide +kernel) rfl rfl wg_1736
theorem lk_ProphecyShopModel_172 : LV "ProphecyShopModel" 172 13 0 m_R_goesOn := ⟨hd_R_goesOn, rfl, ⟨_, rfl, rfl⟩, wg_1733, wg_1735, ws_32, wg_18⟩
theorem hd_R_readsCommands : hd0 m_R_readsCommands 1 := hd0_of (by decide +kernel) (by decide +kernel) (by decide +kernel) rfl rfl wg_1933
theorem lk_ProphecyShopModel_249 : LV "ProphecyShopModel" 249 13 1 m_R_readsCommands := ⟨hd_R_readsCommands, rfl, ⟨_, rfl, rfl⟩, wg_1930, wg_1932, ws_51, wg_18⟩
theorem hd_R_takesSign : hd0 m_R_takesSign 1 := hd0_of (by decide +kernel) (by decide +kernel) (by decide +kernel) rfl rfl wg_1745
theorem lk_ProphecyShopModel_204 : LV "ProphecyShopModel" 204 13 1 m_R_takesSign := ⟨hd_R_takesSign, rfl, ⟨_, rfl, rfl⟩, wg_1742, wg_1744, ws_34, wg_18⟩
theorem hd_R_commandHere : hd0 m_R_commandHere 0 := hd0_of (by decide +kernel) (by decide +kernel) (by decide +kernel) rfl rfl wg_1941
theorem lk_ProphecyShopModel_276 : LV "ProphecyShopModel" 276 13 0 m_R_commandHere := ⟨hd_R_commandHere, rfl, ⟨_, rfl, rfl⟩, wg_1938, wg_1940, ws_53, wg_18⟩
theorem hd_R_reads : hd0 m_R_reads 0 := hd0_of (by decide +kernel) (by decide +kernel) (by decide +kernel) rfl rfl wg_1710
theorem lk_ProphecyShopModel_162 : LV "ProphecyShopModel" 162 13 0 m_R_reads := ⟨hd_R_reads, rfl, ⟨_, rfl, rfl⟩, wg_1707, wg_1709, ws_27, wg_18⟩
theorem hd_R_readsSingle : hd0 m_R_readsSingle 1 := hd0_of (by decide +kernel) (by decide +kernel) (by decide +kernel) rfl rfl wg_1958
theorem lk_ProphecyShopModel_283 : LV "ProphecyShopModel" 283 13 1 m_R_readsSingle := ⟨hd_R_readsSingle, rfl, ⟨_, rfl, rfl⟩, wg_1955, wg_1957, ws_56, wg_18⟩
theorem hd_R_readsRepeat : hd0 m_R_readsRepeat 2 := hd0_of (by decide +kernel) (by decide +kernel) (by decide +kernel) rfl rfl wg_1950
theorem lk_ProphecyShopModel_279 : LV "ProphecyShopModel" 279 13 2 m_R_readsRepeat := ⟨hd_R_readsRepeat, rfl, ⟨_, rfl, rfl⟩, wg_1947, wg_1949, ws_54, wg_18⟩
theorem hd_R_readsCommand : hd0 m_R_readsCommand 1 := hd0_of (by decide +kernel) (by decide +kernel) (by decide +kernel) rfl rfl wg_1937
theorem lk_ProphecyShopModel_286 : LV "ProphecyShopModel" 286 13 1 m_R_readsCommand := ⟨hd_R_readsCommand, rfl, ⟨_, rfl, rfl⟩, wg_1934, wg_1936, ws_52, wg_18⟩
theorem hd_R_does : hd0 m_R_does 1 := hd0_of (by decide +kernel) (by decide +kernel) (by decide +kernel) rfl rfl wg_1997
theorem lk_ProphecyShopModel_314 : LV "ProphecyShopModel" 314 13 1 m_R_does := ⟨hd_R_does, rfl, ⟨_, rfl, rfl⟩, wg_1994, wg_1996, ws_65, wg_18⟩
theorem hd_R_laid : hd0 m_R_laid 2 := hd0_of (by decide +kernel) (by decide +kernel) (by decide +kernel) rfl rfl wg_1993
theorem lk_ProphecyShopModel_289 : LV "ProphecyShopModel" 289 13 2 m_R_laid := ⟨hd_R_laid, rfl, ⟨_, rfl, rfl⟩, wg_1990, wg_1992, ws_64, wg_18⟩
theorem hd_R_doesAll : hd0 m_R_doesAll 2 := hd0_of (by decide +kernel) (by decide +kernel) (by decide +kernel) rfl rfl wg_1989
theorem lk_ProphecyShopModel_307 : LV "ProphecyShopModel" 307 13 2 m_R_doesAll := ⟨hd_R_doesAll, rfl, ⟨_, rfl, rfl⟩, wg_1986, wg_1988, ws_63, wg_18⟩
theorem hd_R_starts : hd0 m_R_starts 0 := hd0_of (by decide +kernel) (by decide +kernel) (by decide +kernel) rfl rfl wg_1706
theorem lk_ProphecyShopModel_67 : LV "ProphecyShopModel" 67 13 0 m_R_starts := ⟨hd_R_starts, rfl, ⟨_, rfl, rfl⟩, wg_1703, wg_1705, ws_26, wg_18⟩
theorem hd_R_isWhole : hd0 m_R_isWhole 0 := hd0_of (by decide +kernel) (by decide +kernel) (by decide +kernel) rfl rfl wg_1925
theorem lk_ProphecyShopModel_230 : LV "ProphecyShopModel" 230 13 0 m_R_isWhole := ⟨hd_R_isWhole, rfl, ⟨_, rfl, rfl⟩, wg_1922, wg_1924, ws_50, wg_18⟩
theorem hd_R_keeps : hd0 m_R_keeps 0 := hd0_of (by decide +kernel) (by decide +kernel) (by decide +kernel) rfl rfl wg_1985
theorem lk_ProphecyShopModel_317 : LV "ProphecyShopModel" 317 13 0 m_R_keeps := ⟨hd_R_keeps, rfl, ⟨_, rfl, rfl⟩, wg_1982, wg_1984, ws_62, wg_18⟩
theorem hd_Prophecy_copyFrom : hd0 m_Prophecy_copyFrom 1 := hd0_of (by decide +kernel) (by decide +kernel) (by decide +kernel) rfl rfl wg_790
theorem lk_Shop_83 : LV "ProphecyShop$Shop" 83 5 1 m_Prophecy_copyFrom := ⟨hd_Prophecy_copyFrom, rfl, ⟨_, rfl, rfl⟩, wg_787, wg_788, wg_789, wg_10⟩
theorem hd_Owl_copyFrom : hd0 m_Owl_copyFrom 1 := hd0_of (by decide +kernel) (by decide +kernel) (by decide +kernel) rfl rfl wg_794
theorem lk_Shop_87 : LV "ProphecyShop$Shop" 87 4 1 m_Owl_copyFrom := ⟨hd_Owl_copyFrom, rfl, ⟨_, rfl, rfl⟩, wg_791, wg_792, wg_793, wg_11⟩
theorem hd_History_forgetOldest : hd0 m_History_forgetOldest 0 := hd0_of (by decide +kernel) (by decide +kernel) (by decide +kernel) rfl rfl wg_779
theorem lk_History_24 : LV "ProphecyShop$History" 24 2 0 m_History_forgetOldest := ⟨hd_History_forgetOldest, rfl, ⟨_, rfl, rfl⟩, wg_776, wg_778, ws_14, wg_12⟩
theorem hd_Shop_copyFrom : hd0 m_Shop_copyFrom 1 := hd0_of (by decide +kernel) (by decide +kernel) (by decide +kernel) rfl rfl wg_783
theorem lk_History_27 : LV "ProphecyShop$History" 27 9 1 m_Shop_copyFrom := ⟨hd_Shop_copyFrom, rfl, ⟨_, rfl, rfl⟩, wg_780, wg_781, wg_782, wg_9⟩
theorem hd_Text_put : hd0 m_Text_put 1 := hd0_of (by decide +kernel) (by decide +kernel) (by decide +kernel) rfl rfl wg_465
theorem lk_Text_19 : LV "ProphecyShop$Text" 19 11 1 m_Text_put := ⟨hd_Text_put, rfl, ⟨_, rfl, rfl⟩, wg_1378, wg_463, wg_464, wg_2⟩
theorem hd_P_isWithin : hd0 m_P_isWithin 3 := hd0_of (by decide +kernel) (by decide +kernel) (by decide +kernel) rfl rfl wg_540
theorem lk_Shop_109 : LSN "ProphecyShop$Shop" 109 3 m_P_isWithin := ⟨hd_P_isWithin, rfl, "ProphecyShop", wt_811, wg_539, wg_1⟩
theorem hd_Prophecy_isOverdue : hd0 m_Prophecy_isOverdue 1 := hd0_of (by decide +kernel) (by decide +kernel) (by decide +kernel) rfl rfl wg_875
theorem lk_Shop_238 : LV "ProphecyShop$Shop" 238 5 1 m_Prophecy_isOverdue := ⟨hd_Prophecy_isOverdue, rfl, ⟨_, rfl, rfl⟩, wg_872, wg_873, wg_874, wg_10⟩
theorem hd_Prophecy_decide : hd0 m_Prophecy_decide 2 := hd0_of (by decide +kernel) (by decide +kernel) (by decide +kernel) rfl rfl wg_859
theorem lk_Shop_158 : LV "ProphecyShop$Shop" 158 5 2 m_Prophecy_decide := ⟨hd_Prophecy_decide, rfl, ⟨_, rfl, rfl⟩, wg_856, wg_857, wg_858, wg_10⟩
theorem hd_Owl_fly : hd0 m_Owl_fly 0 := hd0_of (by decide +kernel) (by decide +kernel) (by decide +kernel) rfl rfl wg_883
theorem lk_Shop_219 : LV "ProphecyShop$Shop" 219 4 0 m_Owl_fly := ⟨hd_Owl_fly, rfl, ⟨_, rfl, rfl⟩, wg_880, wg_881, wg_882, wg_11⟩
theorem hd_Owl_handOver : hd0 m_Owl_handOver 0 := hd0_of (by decide +kernel) (by decide +kernel) (by decide +kernel) rfl rfl wg_887
theorem lk_Shop_222 : LV "ProphecyShop$Shop" 222 4 0 m_Owl_handOver := ⟨hd_Owl_handOver, rfl, ⟨_, rfl, rfl⟩, wg_884, wg_885, wg_886, wg_11⟩
theorem hd_Shop_addCoins : hd0 m_Shop_addCoins 2 := hd0_of (by decide +kernel) (by decide +kernel) (by decide +kernel) rfl rfl wg_847
theorem lk_Shop_143 : LV "ProphecyShop$Shop" 143 9 2 m_Shop_addCoins := ⟨hd_Shop_addCoins, rfl, ⟨_, rfl, rfl⟩, wg_844, wg_846, ws_15, wg_9⟩
theorem hd_Shop_hasSold : hd0 m_Shop_hasSold 1 := hd0_of (by decide +kernel) (by decide +kernel) (by decide +kernel) rfl rfl wg_831
theorem lk_Shop_90 : LV "ProphecyShop$Shop" 90 9 1 m_Shop_hasSold := ⟨hd_Shop_hasSold, rfl, ⟨_, rfl, rfl⟩, wg_828, wg_829, wg_830, wg_9⟩
theorem hd_Shop_refundFor : hd0 m_Shop_refundFor 1 := hd0_of (by decide +kernel) (by decide +kernel) (by decide +kernel) rfl rfl wg_907
theorem lk_Shop_174 : LV "ProphecyShop$Shop" 174 9 1 m_Shop_refundFor := ⟨hd_Shop_refundFor, rfl, ⟨_, rfl, rfl⟩, wg_904, wg_905, wg_906, wg_9⟩
theorem hd_Shop_owlWith : hd0 m_Shop_owlWith 1 := hd0_of (by decide +kernel) (by decide +kernel) (by decide +kernel) rfl rfl wg_915
theorem lk_Shop_202 : LV "ProphecyShop$Shop" 202 9 1 m_Shop_owlWith := ⟨hd_Shop_owlWith, rfl, ⟨_, rfl, rfl⟩, wg_912, wg_913, wg_914, wg_9⟩
theorem hd_Names_has : hd0 m_Names_has 1 := hd0_of (by decide +kernel) (by decide +kernel) (by decide +kernel) rfl rfl wg_635
theorem lk_Setup_60 : LV "ProphecyShop$Setup" 60 3 1 m_Names_has := ⟨hd_Names_has, rfl, ⟨_, rfl, rfl⟩, wg_632, wg_633, wg_634, wg_8⟩
theorem hd_Setup_flightDays : hd0 m_Setup_flightDays 2 := hd0_of (by decide +kernel) (by decide +kernel) (by decide +kernel) rfl rfl wg_923
theorem lk_Shop_206 : LV "ProphecyShop$Shop" 206 7 2 m_Setup_flightDays := ⟨hd_Setup_flightDays, rfl, ⟨_, rfl, rfl⟩, wg_920, wg_921, wg_922, wg_7⟩
theorem hd_Owl_leaveFor : hd0 m_Owl_leaveFor 3 := hd0_of (by decide +kernel) (by decide +kernel) (by decide +kernel) rfl rfl wg_927
theorem lk_Shop_209 : LV "ProphecyShop$Shop" 209 4 3 m_Owl_leaveFor := ⟨hd_Owl_leaveFor, rfl, ⟨_, rfl, rfl⟩, wg_924, wg_925, wg_926, wg_11⟩
theorem hd_Shop_requestAt : hd0 m_Shop_requestAt 1 := hd0_of (by decide +kernel) (by decide +kernel) (by decide +kernel) rfl rfl wg_895
theorem lk_Shop_181 : LV "ProphecyShop$Shop" 181 9 1 m_Shop_requestAt := ⟨hd_Shop_requestAt, rfl, ⟨_, rfl, rfl⟩, wg_892, wg_893, wg_894, wg_9⟩
theorem hd_Shop_prophecyWith : hd0 m_Shop_prophecyWith 1 := hd0_of (by decide +kernel) (by decide +kernel) (by decide +kernel) rfl rfl wg_899
theorem lk_Shop_184 : LV "ProphecyShop$Shop" 184 9 1 m_Shop_prophecyWith := ⟨hd_Shop_prophecyWith, rfl, ⟨_, rfl, rfl⟩, wg_896, wg_897, wg_898, wg_9⟩
theorem hd_Shop_answerTo : hd0 m_Shop_answerTo 1 := hd0_of (by decide +kernel) (by decide +kernel) (by decide +kernel) rfl rfl wg_903
theorem lk_Shop_188 : LV "ProphecyShop$Shop" 188 9 1 m_Shop_answerTo := ⟨hd_Shop_answerTo, rfl, ⟨_, rfl, rfl⟩, wg_900, wg_901, wg_902, wg_9⟩
theorem hd_Shop_removeFirstRequest : hd0 m_Shop_removeFirstRequest 0 := hd0_of (by decide +kernel) (by decide +kernel) (by decide +kernel) rfl rfl wg_931
theorem lk_Shop_199 : LV "ProphecyShop$Shop" 199 9 0 m_Shop_removeFirstRequest := ⟨hd_Shop_removeFirstRequest, rfl, ⟨_, rfl, rfl⟩, wg_928, wg_930, ws_21, wg_9⟩
theorem hd_Shop_firstIdleOwl : hd0 m_Shop_firstIdleOwl 0 := hd0_of (by decide +kernel) (by decide +kernel) (by decide +kernel) rfl rfl wg_911
theorem lk_Shop_191 : LV "ProphecyShop$Shop" 191 9 0 m_Shop_firstIdleOwl := ⟨hd_Shop_firstIdleOwl, rfl, ⟨_, rfl, rfl⟩, wg_908, wg_910, ws_19, wg_9⟩
theorem hd_Shop_pay : hd0 m_Shop_pay 2 := hd0_of (by decide +kernel) (by decide +kernel) (by decide +kernel) rfl rfl wg_919
theorem lk_Shop_195 : LV "ProphecyShop$Shop" 195 9 2 m_Shop_pay := ⟨hd_Shop_pay, rfl, ⟨_, rfl, rfl⟩, wg_916, wg_918, ws_20, wg_9⟩
theorem hd_Shop_decideOverdue : hd0 m_Shop_decideOverdue 0 := hd0_of (by decide +kernel) (by decide +kernel) (by decide +kernel) rfl rfl wg_871
theorem lk_Shop_225 : LV "ProphecyShop$Shop" 225 9 0 m_Shop_decideOverdue := ⟨hd_Shop_decideOverdue, rfl, ⟨_, rfl, rfl⟩, wg_868, wg_870, ws_16, wg_9⟩
theorem hd_Shop_moveOwls : hd0 m_Shop_moveOwls 0 := hd0_of (by decide +kernel) (by decide +kernel) (by decide +kernel) rfl rfl wg_879
theorem lk_Shop_228 : LV "ProphecyShop$Shop" 228 9 0 m_Shop_moveOwls := ⟨hd_Shop_moveOwls, rfl, ⟨_, rfl, rfl⟩, wg_876, wg_878, ws_17, wg_9⟩
theorem hd_Shop_handleFirstRequest : hd0 m_Shop_handleFirstRequest 0 := hd0_of (by decide +kernel) (by decide +kernel) (by decide +kernel) rfl rfl wg_891
theorem lk_Shop_234 : LV "ProphecyShop$Shop" 234 9 0 m_Shop_handleFirstRequest := ⟨hd_Shop_handleFirstRequest, rfl, ⟨_, rfl, rfl⟩, wg_888, wg_890, ws_18, wg_9⟩
theorem hd_Shop_faultOfDays : hd0 m_Shop_faultOfDays 1 := hd0_of (by decide +kernel) (by decide +kernel) (by decide +kernel) rfl rfl wg_839
theorem lk_ProphecyShop_324 : LV "ProphecyShop" 324 9 1 m_Shop_faultOfDays := ⟨hd_Shop_faultOfDays, rfl, ⟨_, rfl, rfl⟩, wg_1649, wg_837, wg_838, wg_9⟩
theorem hd_P_throwFor : hd0 m_P_throwFor 1 := hd0_of (by decide +kernel) (by decide +kernel) (by decide +kernel) rfl rfl wg_1606
theorem lk_ProphecyShop_312 : m_P_throwFor.2.2.2.2 = [] ∧ LST "ProphecyShop" 312 1 m_P_throwFor := ⟨rfl, hd_P_throwFor, wg_1604, wg_1605, wg_1⟩
theorem hd_History_record : hd0 m_History_record 1 := hd0_of (by decide +kernel) (by decide +kernel) (by decide +kernel) rfl rfl wg_775
theorem lk_ProphecyShop_138 : LV "ProphecyShop" 138 2 1 m_History_record := ⟨hd_History_record, rfl, ⟨_, rfl, rfl⟩, wg_772, wg_773, wg_774, wg_12⟩
theorem hd_Shop_passDays : hd0 m_Shop_passDays 1 := hd0_of (by decide +kernel) (by decide +kernel) (by decide +kernel) rfl rfl wg_867
theorem lk_ProphecyShop_300 : LV "ProphecyShop" 300 9 1 m_Shop_passDays := ⟨hd_Shop_passDays, rfl, ⟨_, rfl, rfl⟩, wg_1583, wg_865, wg_866, wg_9⟩
theorem lk_ProphecyShop_240 : LV "ProphecyShop" 240 9 1 m_Shop_hasSold := ⟨hd_Shop_hasSold, rfl, ⟨_, rfl, rfl⟩, wg_1447, wg_829, wg_830, wg_9⟩
theorem hd_P_throwIfMissing : hd0 m_P_throwIfMissing 1 := hd0_of (by decide +kernel) (by decide +kernel) (by decide +kernel) rfl rfl wg_1402
theorem lk_ProphecyShop_178 : m_P_throwIfMissing.2.2.2.2 = [] ∧ LST "ProphecyShop" 178 1 m_P_throwIfMissing := ⟨rfl, hd_P_throwIfMissing, wg_1400, wg_1401, wg_1⟩
theorem lk_ProphecyShop_299 : LV "ProphecyShop" 299 9 1 m_Shop_prophecyWith := ⟨hd_Shop_prophecyWith, rfl, ⟨_, rfl, rfl⟩, wg_1448, wg_897, wg_898, wg_9⟩
theorem hd_P_prophecyWith : hd0 m_P_prophecyWith 1 := hd0_of (by decide +kernel) (by decide +kernel) (by decide +kernel) rfl rfl wg_1446
theorem lk_ProphecyShop_198 : LV "ProphecyShop" 198 12 1 m_P_prophecyWith := ⟨hd_P_prophecyWith, rfl, ⟨_, rfl, rfl⟩, wg_1443, wg_1445, ws_23, wg_1⟩
theorem hd_Text_bytesIn : hd0 m_Text_bytesIn 1 := hd0_of (by decide +kernel) (by decide +kernel) (by decide +kernel) rfl rfl wg_1357
theorem lk_ProphecyShop_101 : m_Text_bytesIn.2.2.2.2 = [] ∧ LST "ProphecyShop" 101 1 m_Text_bytesIn := ⟨rfl, hd_Text_bytesIn, wg_1355, wg_1356, wg_2⟩
theorem hd_Text_size : hd0 m_Text_size 0 := hd0_of (by decide +kernel) (by decide +kernel) (by decide +kernel) rfl rfl wg_491
theorem lk_ProphecyShop_105 : LV "ProphecyShop" 105 11 0 m_Text_size := ⟨hd_Text_size, rfl, ⟨_, rfl, rfl⟩, wg_964, wg_489, wg_490, wg_2⟩
theorem hd_Text_putBytesOf : hd0 m_Text_putBytesOf 1 := hd0_of (by decide +kernel) (by decide +kernel) (by decide +kernel) rfl rfl wg_1377
theorem lk_ProphecyShop_115 : LV "ProphecyShop" 115 11 1 m_Text_putBytesOf := ⟨hd_Text_putBytesOf, rfl, ⟨_, rfl, rfl⟩, wg_1374, wg_1375, wg_1376, wg_2⟩
theorem hd_Shop_requestsBefore : hd0 m_Shop_requestsBefore 1 := hd0_of (by decide +kernel) (by decide +kernel) (by decide +kernel) rfl rfl wg_835
theorem lk_Shop_178 : LV "ProphecyShop$Shop" 178 9 1 m_Shop_requestsBefore := ⟨hd_Shop_requestsBefore, rfl, ⟨_, rfl, rfl⟩, wg_832, wg_833, wg_834, wg_9⟩
theorem hd_Shop_faultOfRequest : hd0 m_Shop_faultOfRequest 1 := hd0_of (by decide +kernel) (by decide +kernel) (by decide +kernel) rfl rfl wg_827
theorem lk_ProphecyShop_318 : LV "ProphecyShop" 318 9 1 m_Shop_faultOfRequest := ⟨hd_Shop_faultOfRequest, rfl, ⟨_, rfl, rfl⟩, wg_1640, wg_825, wg_826, wg_9⟩
theorem hd_Shop_addRequest : hd0 m_Shop_addRequest 1 := hd0_of (by decide +kernel) (by decide +kernel) (by decide +kernel) rfl rfl wg_863
theorem lk_ProphecyShop_321 : LV "ProphecyShop" 321 9 1 m_Shop_addRequest := ⟨hd_Shop_addRequest, rfl, ⟨_, rfl, rfl⟩, wg_1641, wg_861, wg_862, wg_9⟩
theorem lk_ProphecyShop_118 : m_P_isWithin.2.2.2.2 = [] ∧ LST "ProphecyShop" 118 3 m_P_isWithin := ⟨rfl, hd_P_isWithin, wg_1387, wg_539, wg_1⟩
theorem lk_ProphecyShop_296 : LV "ProphecyShop" 296 9 1 m_Shop_copyFrom := ⟨hd_Shop_copyFrom, rfl, ⟨_, rfl, rfl⟩, wg_1582, wg_781, wg_782, wg_9⟩
theorem hd_Setup_firstCoinsOf : hd0 m_Setup_firstCoinsOf 1 := hd0_of (by decide +kernel) (by decide +kernel) (by decide +kernel) rfl rfl wg_631
theorem lk_Setup_64 : LV "ProphecyShop$Setup" 64 7 1 m_Setup_firstCoinsOf := ⟨hd_Setup_firstCoinsOf, rfl, ⟨_, rfl, rfl⟩, wg_1024, wg_629, wg_630, wg_7⟩
theorem hd_Setup_sumOfCoins : hd0 m_Setup_sumOfCoins 0 := hd0_of (by decide +kernel) (by decide +kernel) (by decide +kernel) rfl rfl wg_1023
theorem lk_ProphecyShop_281 : LV "ProphecyShop" 281 7 0 m_Setup_sumOfCoins := ⟨hd_Setup_sumOfCoins, rfl, ⟨_, rfl, rfl⟩, wg_1020, wg_1021, wg_1022, wg_7⟩
theorem hd_Shop_sumOfCoins : hd0 m_Shop_sumOfCoins 0 := hd0_of (by decide +kernel) (by decide +kernel) (by decide +kernel) rfl rfl wg_1028
theorem lk_ProphecyShop_284 : LV "ProphecyShop" 284 9 0 m_Shop_sumOfCoins := ⟨hd_Shop_sumOfCoins, rfl, ⟨_, rfl, rfl⟩, wg_1025, wg_1026, wg_1027, wg_9⟩
theorem hd_Shop_sumOfRefunds : hd0 m_Shop_sumOfRefunds 0 := hd0_of (by decide +kernel) (by decide +kernel) (by decide +kernel) rfl rfl wg_1035
theorem lk_ProphecyShop_290 : LV "ProphecyShop" 290 9 0 m_Shop_sumOfRefunds := ⟨hd_Shop_sumOfRefunds, rfl, ⟨_, rfl, rfl⟩, wg_1032, wg_1033, wg_1034, wg_9⟩
theorem hd_Shop_countOverdue : hd0 m_Shop_countOverdue 0 := hd0_of (by decide +kernel) (by decide +kernel) (by decide +kernel) rfl rfl wg_1039
theorem lk_ProphecyShop_293 : LV "ProphecyShop" 293 9 0 m_Shop_countOverdue := ⟨hd_Shop_countOverdue, rfl, ⟨_, rfl, rfl⟩, wg_1036, wg_1037, wg_1038, wg_9⟩
theorem hd_Shop_countWithState : hd0 m_Shop_countWithState 1 := hd0_of (by decide +kernel) (by decide +kernel) (by decide +kernel) rfl rfl wg_1007
theorem lk_ProphecyShop_269 : LV "ProphecyShop" 269 9 1 m_Shop_countWithState := ⟨hd_Shop_countWithState, rfl, ⟨_, rfl, rfl⟩, wg_1004, wg_1005, wg_1006, wg_9⟩
theorem lk_ProphecyShop_249 : LV "ProphecyShop" 249 9 1 m_Shop_answerTo := ⟨hd_Shop_answerTo, rfl, ⟨_, rfl, rfl⟩, wg_1545, wg_901, wg_902, wg_9⟩
theorem hd_Text_at : hd0 m_Text_at 1 := hd0_of (by decide +kernel) (by decide +kernel) (by decide +kernel) rfl rfl wg_495
theorem lk_Names_19 : LV "ProphecyShop$Names" 19 11 1 m_Text_at := ⟨hd_Text_at, rfl, ⟨_, rfl, rfl⟩, wg_585, wg_493, wg_494, wg_2⟩
theorem hd_Names_codeOf : hd0 m_Names_codeOf 3 := hd0_of (by decide +kernel) (by decide +kernel) (by decide +kernel) rfl rfl wg_584
theorem lk_ProphecyShop_167 : m_Names_codeOf.2.2.2.2 = [] ∧ LST "ProphecyShop" 167 3 m_Names_codeOf := ⟨rfl, hd_Names_codeOf, wg_965, wg_583, wg_8⟩
theorem hd_Names_find : hd0 m_Names_find 1 := hd0_of (by decide +kernel) (by decide +kernel) (by decide +kernel) rfl rfl wg_589
theorem lk_ProphecyShop_171 : LV "ProphecyShop" 171 3 1 m_Names_find := ⟨hd_Names_find, rfl, ⟨_, rfl, rfl⟩, wg_966, wg_587, wg_588, wg_8⟩
theorem lk_Shop_98 : LV "ProphecyShop$Shop" 98 3 1 m_Names_has := ⟨hd_Names_has, rfl, ⟨_, rfl, rfl⟩, wg_810, wg_633, wg_634, wg_8⟩
theorem hd_Shop_isNoted : hd0 m_Shop_isNoted 3 := hd0_of (by decide +kernel) (by decide +kernel) (by decide +kernel) rfl rfl wg_823
theorem lk_Shop_151 : LV "ProphecyShop$Shop" 151 9 3 m_Shop_isNoted := ⟨hd_Shop_isNoted, rfl, ⟨_, rfl, rfl⟩, wg_820, wg_821, wg_822, wg_9⟩
theorem hd_Prophecy_isAbout : hd0 m_Prophecy_isAbout 2 := hd0_of (by decide +kernel) (by decide +kernel) (by decide +kernel) rfl rfl wg_855
theorem lk_Shop_154 : LV "ProphecyShop$Shop" 154 5 2 m_Prophecy_isAbout := ⟨hd_Prophecy_isAbout, rfl, ⟨_, rfl, rfl⟩, wg_852, wg_853, wg_854, wg_10⟩
theorem hd_Shop_faultOfHappening : hd0 m_Shop_faultOfHappening 2 := hd0_of (by decide +kernel) (by decide +kernel) (by decide +kernel) rfl rfl wg_819
theorem lk_ProphecyShop_309 : LV "ProphecyShop" 309 9 2 m_Shop_faultOfHappening := ⟨hd_Shop_faultOfHappening, rfl, ⟨_, rfl, rfl⟩, wg_1631, wg_817, wg_818, wg_9⟩
theorem hd_Shop_noteHappening : hd0 m_Shop_noteHappening 2 := hd0_of (by decide +kernel) (by decide +kernel) (by decide +kernel) rfl rfl wg_851
theorem lk_ProphecyShop_315 : LV "ProphecyShop" 315 9 2 m_Shop_noteHappening := ⟨hd_Shop_noteHappening, rfl, ⟨_, rfl, rfl⟩, wg_1632, wg_849, wg_850, wg_9⟩
theorem lk_ProphecyShop_174 : LV "ProphecyShop" 174 3 1 m_Names_has := ⟨hd_Names_has, rfl, ⟨_, rfl, rfl⟩, wg_1399, wg_633, wg_634, wg_8⟩
theorem lk_ProphecyShop_189 : LV "ProphecyShop" 189 9 3 m_Shop_isNoted := ⟨hd_Shop_isNoted, rfl, ⟨_, rfl, rfl⟩, wg_1435, wg_821, wg_822, wg_9⟩
theorem lk_ProphecyShop_255 : LV "ProphecyShop" 255 9 1 m_Shop_owlWith := ⟨hd_Shop_owlWith, rfl, ⟨_, rfl, rfl⟩, wg_991, wg_913, wg_914, wg_9⟩
theorem hd_Shop_countHappenings : hd0 m_Shop_countHappenings 2 := hd0_of (by decide +kernel) (by decide +kernel) (by decide +kernel) rfl rfl wg_978
theorem lk_Shop_147 : LV "ProphecyShop$Shop" 147 9 2 m_Shop_countHappenings := ⟨hd_Shop_countHappenings, rfl, ⟨_, rfl, rfl⟩, wg_975, wg_976, wg_977, wg_9⟩
theorem hd_Shop_countHappeningsIn : hd0 m_Shop_countHappeningsIn 1 := hd0_of (by decide +kernel) (by decide +kernel) (by decide +kernel) rfl rfl wg_974
theorem lk_ProphecyShop_192 : LV "ProphecyShop" 192 9 1 m_Shop_countHappeningsIn := ⟨hd_Shop_countHappeningsIn, rfl, ⟨_, rfl, rfl⟩, wg_971, wg_972, wg_973, wg_9⟩
theorem lk_Reader_34 : LV "ProphecyShop$Reader" 34 11 0 m_Text_size := ⟨hd_Text_size, rfl, ⟨_, rfl, rfl⟩, wg_488, wg_489, wg_490, wg_2⟩
theorem lk_Reader_40 : LV "ProphecyShop$Reader" 40 11 1 m_Text_at := ⟨hd_Text_at, rfl, ⟨_, rfl, rfl⟩, wg_492, wg_493, wg_494, wg_2⟩
theorem hd_Reader_isBlank : hd0 m_Reader_isBlank 1 := hd0_of (by decide +kernel) (by decide +kernel) (by decide +kernel) rfl rfl wg_498
theorem lk_Reader_44 : m_Reader_isBlank.2.2.2.2 = [] ∧ LST "ProphecyShop$Reader" 44 1 m_Reader_isBlank := ⟨rfl, hd_Reader_isBlank, wg_496, wg_497, wg_3⟩
theorem hd_Reader_kindOf : hd0 m_Reader_kindOf 1 := hd0_of (by decide +kernel) (by decide +kernel) (by decide +kernel) rfl rfl wg_501
theorem lk_Reader_48 : m_Reader_kindOf.2.2.2.2 = [] ∧ LST "ProphecyShop$Reader" 48 1 m_Reader_kindOf := ⟨rfl, hd_Reader_kindOf, wg_499, wg_500, wg_3⟩
theorem hd_Reader_next : hd0 m_Reader_next 0 := hd0_of (by decide +kernel) (by decide +kernel) (by decide +kernel) rfl rfl wg_487
theorem lk_Reader_31_8 : LU "ProphecyShop$Reader" 31 8 0 m_Reader_next := ⟨hd_Reader_next, rfl, _, ⟨"ProphecyShop$Reader", "next", "()V"⟩, rfl, rfl, wg_484, wg_2344, wx_0, wg_486, wg_3, by decide +kernel⟩
theorem lk_Reader_31_6 : LU "ProphecyShop$Reader" 31 6 0 m_Reader_next := ⟨hd_Reader_next, rfl, _, ⟨"ProphecyShop$Reader", "next", "()V"⟩, rfl, rfl, wg_484, wg_2344, wx_2, wg_486, wg_3, by decide +kernel⟩
theorem hd_String_length_8abf5 : hd0 m_String_length_8abf5 0 := hd0_of (by decide +kernel) (by decide +kernel) (by decide +kernel) rfl rfl wg_417
theorem lk_Reader_51 : LV "ProphecyShop$Reader" 51 14 0 m_String_length_8abf5 := ⟨hd_String_length_8abf5, rfl, ⟨_, rfl, rfl⟩, wg_519, wg_415, wg_416, wg_13⟩
theorem hd_String_charAt_5068e : hd0 m_String_charAt_5068e 1 := hd0_of (by decide +kernel) (by decide +kernel) (by decide +kernel) rfl rfl wg_427
theorem lk_Reader_56 : LV "ProphecyShop$Reader" 56 14 1 m_String_charAt_5068e := ⟨hd_String_charAt_5068e, rfl, ⟨_, rfl, rfl⟩, wg_520, wg_425, wg_426, wg_13⟩
theorem hd_Reader_sees : hd0 m_Reader_sees 1 := hd0_of (by decide +kernel) (by decide +kernel) (by decide +kernel) rfl rfl wg_518
theorem lk_Reader_68_8 : LU "ProphecyShop$Reader" 68 8 1 m_Reader_sees := ⟨hd_Reader_sees, rfl, _, ⟨"ProphecyShop$Reader", "sees", "(Ljava/lang/String;)Z"⟩, rfl, rfl, wg_513, wg_515, wg_517, wg_514, wg_3, by decide +kernel⟩
theorem hd_Reader_fail : hd0 m_Reader_fail 1 := hd0_of (by decide +kernel) (by decide +kernel) (by decide +kernel) rfl rfl wg_526
theorem lk_Reader_64_8 : LU "ProphecyShop$Reader" 64 8 1 m_Reader_fail := ⟨hd_Reader_fail, rfl, _, ⟨"ProphecyShop$Reader", "fail", "(I)V"⟩, rfl, rfl, wg_521, wg_523, wg_525, wg_522, wg_3, by decide +kernel⟩
theorem lk_Reader_68_6 : LU "ProphecyShop$Reader" 68 6 1 m_Reader_sees := ⟨hd_Reader_sees, rfl, _, ⟨"ProphecyShop$Reader", "sees", "(Ljava/lang/String;)Z"⟩, rfl, rfl, wg_513, wg_515, wg_516, wg_514, wg_3, by decide +kernel⟩
theorem lk_Reader_64_6 : LU "ProphecyShop$Reader" 64 6 1 m_Reader_fail := ⟨hd_Reader_fail, rfl, _, ⟨"ProphecyShop$Reader", "fail", "(I)V"⟩, rfl, rfl, wg_521, wg_523, wg_524, wg_522, wg_3, by decide +kernel⟩
theorem lk_Reader_79 : LSN "ProphecyShop$Reader" 79 3 m_P_isWithin := ⟨hd_P_isWithin, rfl, "ProphecyShop", wt_538, wg_539, wg_1⟩
theorem hd_Reader_seesSign : hd0 m_Reader_seesSign 1 := hd0_of (by decide +kernel) (by decide +kernel) (by decide +kernel) rfl rfl wg_552
theorem lk_Reader_60_8 : LU "ProphecyShop$Reader" 60 8 1 m_Reader_seesSign := ⟨hd_Reader_seesSign, rfl, _, ⟨"ProphecyShop$Reader", "seesSign", "(C)Z"⟩, rfl, rfl, wg_547, wg_549, wg_551, wg_548, wg_3, by decide +kernel⟩
theorem lk_Reader_60_6 : LU "ProphecyShop$Reader" 60 6 1 m_Reader_seesSign := ⟨hd_Reader_seesSign, rfl, _, ⟨"ProphecyShop$Reader", "seesSign", "(C)Z"⟩, rfl, rfl, wg_547, wg_549, wg_550, wg_548, wg_3, by decide +kernel⟩
theorem hd_Reader_takeWord : hd0 m_Reader_takeWord 1 := hd0_of (by decide +kernel) (by decide +kernel) (by decide +kernel) rfl rfl wg_512
theorem lk_SetupReader_59_8 : LU "ProphecyShop$SetupReader" 59 8 1 m_Reader_takeWord := ⟨hd_Reader_takeWord, rfl, _, ⟨"ProphecyShop$SetupReader", "takeWord", "(Ljava/lang/String;)V"⟩, rfl, rfl, wg_507, wg_508, wg_510, wg_511, wg_3, by decide +kernel⟩
theorem hd_Reader_takeNumber : hd0 m_Reader_takeNumber 2 := hd0_of (by decide +kernel) (by decide +kernel) (by decide +kernel) rfl rfl wg_533
theorem lk_SetupReader_64_8 : LU "ProphecyShop$SetupReader" 64 8 2 m_Reader_takeNumber := ⟨hd_Reader_takeNumber, rfl, _, ⟨"ProphecyShop$SetupReader", "takeNumber", "(II)I"⟩, rfl, rfl, wg_528, wg_529, wg_531, wg_532, wg_3, by decide +kernel⟩
theorem hd_Reader_takeSign : hd0 m_Reader_takeSign 1 := hd0_of (by decide +kernel) (by decide +kernel) (by decide +kernel) rfl rfl wg_546
theorem lk_SetupReader_83_8 : LU "ProphecyShop$SetupReader" 83 8 1 m_Reader_takeSign := ⟨hd_Reader_takeSign, rfl, _, ⟨"ProphecyShop$SetupReader", "takeSign", "(C)V"⟩, rfl, rfl, wg_541, wg_542, wg_544, wg_545, wg_3, by decide +kernel⟩
theorem lk_Reader_91 : m_Names_codeOf.2.2.2.2 = [] ∧ LST "ProphecyShop$Reader" 91 3 m_Names_codeOf := ⟨rfl, hd_Names_codeOf, wg_582, wg_583, wg_8⟩
theorem hd_Reader_codeOfName : hd0 m_Reader_codeOfName 0 := hd0_of (by decide +kernel) (by decide +kernel) (by decide +kernel) rfl rfl wg_581
theorem lk_Reader_83_8 : LU "ProphecyShop$Reader" 83 8 0 m_Reader_codeOfName := ⟨hd_Reader_codeOfName, rfl, _, ⟨"ProphecyShop$Reader", "codeOfName", "()I"⟩, rfl, rfl, wg_578, wg_2345, wx_1, wg_580, wg_3, by decide +kernel⟩
theorem lk_Reader_86 : LV "ProphecyShop$Reader" 86 3 1 m_Names_find := ⟨hd_Names_find, rfl, ⟨_, rfl, rfl⟩, wg_586, wg_587, wg_588, wg_8⟩
theorem lk_Reader_83_6 : LU "ProphecyShop$Reader" 83 6 0 m_Reader_codeOfName := ⟨hd_Reader_codeOfName, rfl, _, ⟨"ProphecyShop$Reader", "codeOfName", "()I"⟩, rfl, rfl, wg_578, wg_2345, wx_3, wg_580, wg_3, by decide +kernel⟩
theorem lk_SetupReader_87_8 : LU "ProphecyShop$SetupReader" 87 8 1 m_Reader_sees := ⟨hd_Reader_sees, rfl, _, ⟨"ProphecyShop$SetupReader", "sees", "(Ljava/lang/String;)Z"⟩, rfl, rfl, wg_558, wg_559, wg_561, wg_514, wg_3, by decide +kernel⟩
theorem lk_SetupReader_49_8 : LU "ProphecyShop$SetupReader" 49 8 1 m_Reader_fail := ⟨hd_Reader_fail, rfl, _, ⟨"ProphecyShop$SetupReader", "fail", "(I)V"⟩, rfl, rfl, wg_562, wg_563, wg_565, wg_522, wg_3, by decide +kernel⟩
theorem hd_Reader_takeCounted : hd0 m_Reader_takeCounted 3 := hd0_of (by decide +kernel) (by decide +kernel) (by decide +kernel) rfl rfl wg_571
theorem lk_SetupReader_91_8 : LU "ProphecyShop$SetupReader" 91 8 3 m_Reader_takeCounted := ⟨hd_Reader_takeCounted, rfl, _, ⟨"ProphecyShop$SetupReader", "takeCounted", "(Ljava/lang/String;II)V"⟩, rfl, rfl, wg_566, wg_567, wg_569, wg_570, wg_3, by decide +kernel⟩
theorem hd_Reader_takeNewName : hd0 m_Reader_takeNewName 1 := hd0_of (by decide +kernel) (by decide +kernel) (by decide +kernel) rfl rfl wg_577
theorem lk_SetupReader_95_8 : LU "ProphecyShop$SetupReader" 95 8 1 m_Reader_takeNewName := ⟨hd_Reader_takeNewName, rfl, _, ⟨"ProphecyShop$SetupReader", "takeNewName", "(LProphecyShop$Names;)I"⟩, rfl, rfl, wg_572, wg_573, wg_575, wg_576, wg_3, by decide +kernel⟩
theorem hd_Names_add : hd0 m_Names_add 1 := hd0_of (by decide +kernel) (by decide +kernel) (by decide +kernel) rfl rfl wg_593
theorem lk_SetupReader_99 : LV "ProphecyShop$SetupReader" 99 3 1 m_Names_add := ⟨hd_Names_add, rfl, ⟨_, rfl, rfl⟩, wg_590, wg_591, wg_592, wg_8⟩
theorem lk_Setup_56 : LV "ProphecyShop$Setup" 56 3 1 m_Names_add := ⟨hd_Names_add, rfl, ⟨_, rfl, rfl⟩, wg_604, wg_591, wg_592, wg_8⟩
theorem hd_Setup_addCustomer : hd0 m_Setup_addCustomer 3 := hd0_of (by decide +kernel) (by decide +kernel) (by decide +kernel) rfl rfl wg_603
theorem lk_SetupReader_109 : LV "ProphecyShop$SetupReader" 109 7 3 m_Setup_addCustomer := ⟨hd_Setup_addCustomer, rfl, ⟨_, rfl, rfl⟩, wg_600, wg_601, wg_602, wg_7⟩
theorem hd_Setup_addOwl : hd0 m_Setup_addOwl 1 := hd0_of (by decide +kernel) (by decide +kernel) (by decide +kernel) rfl rfl wg_613
theorem lk_SetupReader_115 : LV "ProphecyShop$SetupReader" 115 7 1 m_Setup_addOwl := ⟨hd_Setup_addOwl, rfl, ⟨_, rfl, rfl⟩, wg_610, wg_611, wg_612, wg_7⟩
theorem hd_Setup_clear : hd0 m_Setup_clear 0 := hd0_of (by decide +kernel) (by decide +kernel) (by decide +kernel) rfl rfl wg_477
theorem lk_SetupReader_9 : LV "ProphecyShop$SetupReader" 9 7 0 m_Setup_clear := ⟨hd_Setup_clear, rfl, ⟨_, rfl, rfl⟩, wg_474, wg_475, wg_476, wg_7⟩
theorem hd_Reader_begin : hd0 m_Reader_begin 0 := hd0_of (by decide +kernel) (by decide +kernel) (by decide +kernel) rfl rfl wg_483
theorem lk_SetupReader_15_8 : LU "ProphecyShop$SetupReader" 15 8 0 m_Reader_begin := ⟨hd_Reader_begin, rfl, _, ⟨"ProphecyShop$SetupReader", "begin", "()V"⟩, rfl, rfl, wg_478, wg_479, wg_481, wg_482, wg_3, by decide +kernel⟩
theorem hd_SetupReader_readShop : hd0 m_SetupReader_readShop 1 := hd0_of (by decide +kernel) (by decide +kernel) (by decide +kernel) rfl rfl wg_505
theorem lk_SetupReader_20 : LV "ProphecyShop$SetupReader" 20 8 1 m_SetupReader_readShop := ⟨hd_SetupReader_readShop, rfl, ⟨_, rfl, rfl⟩, wg_502, wg_504, ws_1, wg_4⟩
theorem hd_SetupReader_readNames : hd0 m_SetupReader_readNames 2 := hd0_of (by decide +kernel) (by decide +kernel) (by decide +kernel) rfl rfl wg_557
theorem lk_SetupReader_30 : LV "ProphecyShop$SetupReader" 30 8 2 m_SetupReader_readNames := ⟨hd_SetupReader_readNames, rfl, ⟨_, rfl, rfl⟩, wg_554, wg_556, ws_2, wg_4⟩
theorem hd_SetupReader_readCustomers : hd0 m_SetupReader_readCustomers 1 := hd0_of (by decide +kernel) (by decide +kernel) (by decide +kernel) rfl rfl wg_598
theorem lk_SetupReader_39 : LV "ProphecyShop$SetupReader" 39 8 1 m_SetupReader_readCustomers := ⟨hd_SetupReader_readCustomers, rfl, ⟨_, rfl, rfl⟩, wg_595, wg_597, ws_3, wg_4⟩
theorem hd_SetupReader_readOwls : hd0 m_SetupReader_readOwls 1 := hd0_of (by decide +kernel) (by decide +kernel) (by decide +kernel) rfl rfl wg_608
theorem lk_SetupReader_42 : LV "ProphecyShop$SetupReader" 42 8 1 m_SetupReader_readOwls := ⟨hd_SetupReader_readOwls, rfl, ⟨_, rfl, rfl⟩, wg_605, wg_607, ws_4, wg_4⟩
theorem hd_Reader_seesEnd : hd0 m_Reader_seesEnd 0 := hd0_of (by decide +kernel) (by decide +kernel) (by decide +kernel) rfl rfl wg_619
theorem lk_SetupReader_45_8 : LU "ProphecyShop$SetupReader" 45 8 0 m_Reader_seesEnd := ⟨hd_Reader_seesEnd, rfl, _, ⟨"ProphecyShop$SetupReader", "seesEnd", "()Z"⟩, rfl, rfl, wg_614, wg_615, wg_617, wg_618, wg_3, by decide +kernel⟩
theorem lk_Shop_70 : LV "ProphecyShop$Shop" 70 7 1 m_Setup_firstCoinsOf := ⟨hd_Setup_firstCoinsOf, rfl, ⟨_, rfl, rfl⟩, wg_628, wg_629, wg_630, wg_7⟩
theorem hd_Owl_rest : hd0 m_Owl_rest 0 := hd0_of (by decide +kernel) (by decide +kernel) (by decide +kernel) rfl rfl wg_639
theorem lk_Shop_74 : LV "ProphecyShop$Shop" 74 4 0 m_Owl_rest := ⟨hd_Owl_rest, rfl, ⟨_, rfl, rfl⟩, wg_636, wg_637, wg_638, wg_11⟩
theorem hd_SetupReader_readInto : hd0 m_SetupReader_readInto 1 := hd0_of (by decide +kernel) (by decide +kernel) (by decide +kernel) rfl rfl wg_473
theorem lk_ProphecyShop_356 : LV "ProphecyShop" 356 8 1 m_SetupReader_readInto := ⟨hd_SetupReader_readInto, rfl, ⟨_, rfl, rfl⟩, wg_470, wg_471, wg_472, wg_4⟩
theorem hd_Text_shortenTo : hd0 m_Text_shortenTo 1 := hd0_of (by decide +kernel) (by decide +kernel) (by decide +kernel) rfl rfl wg_623
theorem lk_ProphecyShop_127 : LV "ProphecyShop" 127 11 1 m_Text_shortenTo := ⟨hd_Text_shortenTo, rfl, ⟨_, rfl, rfl⟩, wg_620, wg_621, wg_622, wg_2⟩
theorem hd_Shop_openWith : hd0 m_Shop_openWith 1 := hd0_of (by decide +kernel) (by decide +kernel) (by decide +kernel) rfl rfl wg_627
theorem lk_ProphecyShop_359 : LV "ProphecyShop" 359 9 1 m_Shop_openWith := ⟨hd_Shop_openWith, rfl, ⟨_, rfl, rfl⟩, wg_624, wg_625, wg_626, wg_9⟩
theorem hd_P_openShop : hd0 m_P_openShop 0 := hd0_of (by decide +kernel) (by decide +kernel) (by decide +kernel) rfl rfl wg_469
theorem lk_ProphecyShop_98 : LV "ProphecyShop" 98 12 0 m_P_openShop := ⟨hd_P_openShop, rfl, ⟨_, rfl, rfl⟩, wg_466, wg_468, ws_0, wg_1⟩
theorem hd_Shop_sumOfPrices : hd0 m_Shop_sumOfPrices 0 := hd0_of (by decide +kernel) (by decide +kernel) (by decide +kernel) rfl rfl wg_1015
theorem lk_ProphecyShop_278 : LV "ProphecyShop" 278 9 0 m_Shop_sumOfPrices := ⟨hd_Shop_sumOfPrices, rfl, ⟨_, rfl, rfl⟩, wg_1012, wg_1013, wg_1014, wg_9⟩
theorem lk_ProphecyShop_243 : LV "ProphecyShop" 243 9 1 m_Shop_requestsBefore := ⟨hd_Shop_requestsBefore, rfl, ⟨_, rfl, rfl⟩, wg_1530, wg_833, wg_834, wg_9⟩
theorem hd_Shop_coinsOf : hd0 m_Shop_coinsOf 1 := hd0_of (by decide +kernel) (by decide +kernel) (by decide +kernel) rfl rfl wg_815
theorem lk_ProphecyShop_182 : LV "ProphecyShop" 182 9 1 m_Shop_coinsOf := ⟨hd_Shop_coinsOf, rfl, ⟨_, rfl, rfl⟩, wg_1419, wg_813, wg_814, wg_9⟩
theorem lk_ProphecyShop_233 : LV "ProphecyShop" 233 9 1 m_Shop_refundFor := ⟨hd_Shop_refundFor, rfl, ⟨_, rfl, rfl⟩, wg_1522, wg_905, wg_906, wg_9⟩
theorem lk_Script_87_6 : LU "ProphecyShop$Script" 87 6 1 m_Reader_takeSign := ⟨hd_Reader_takeSign, rfl, _, ⟨"ProphecyShop$Script", "takeSign", "(C)V"⟩, rfl, rfl, wg_708, wg_709, wg_710, wg_545, wg_3, by decide +kernel⟩
theorem hd_Script_addStep : hd0 m_Script_addStep 1 := hd0_of (by decide +kernel) (by decide +kernel) (by decide +kernel) rfl rfl wg_714
theorem lk_Script_102 : LV "ProphecyShop$Script" 102 6 1 m_Script_addStep := ⟨hd_Script_addStep, rfl, ⟨_, rfl, rfl⟩, wg_711, wg_713, ws_6, wg_5⟩
theorem hd_Script_stepAt : hd0 m_Script_stepAt 1 := hd0_of (by decide +kernel) (by decide +kernel) (by decide +kernel) rfl rfl wg_718
theorem lk_Script_163 : LV "ProphecyShop$Script" 163 6 1 m_Script_stepAt := ⟨hd_Script_stepAt, rfl, ⟨_, rfl, rfl⟩, wg_715, wg_717, ws_7, wg_5⟩
theorem lk_Script_98_6 : LU "ProphecyShop$Script" 98 6 3 m_Reader_takeCounted := ⟨hd_Reader_takeCounted, rfl, _, ⟨"ProphecyShop$Script", "takeCounted", "(Ljava/lang/String;II)V"⟩, rfl, rfl, wg_731, wg_732, wg_733, wg_570, wg_3, by decide +kernel⟩
theorem lk_Script_61_6 : LU "ProphecyShop$Script" 61 6 1 m_Reader_sees := ⟨hd_Reader_sees, rfl, _, ⟨"ProphecyShop$Script", "sees", "(Ljava/lang/String;)Z"⟩, rfl, rfl, wg_724, wg_725, wg_726, wg_514, wg_3, by decide +kernel⟩
theorem lk_Script_152_6 : LU "ProphecyShop$Script" 152 6 1 m_Reader_takeWord := ⟨hd_Reader_takeWord, rfl, _, ⟨"ProphecyShop$Script", "takeWord", "(Ljava/lang/String;)V"⟩, rfl, rfl, wg_749, wg_750, wg_751, wg_511, wg_3, by decide +kernel⟩
theorem hd_Reader_takeName : hd0 m_Reader_takeName 1 := hd0_of (by decide +kernel) (by decide +kernel) (by decide +kernel) rfl rfl wg_743
theorem lk_Script_115_6 : LU "ProphecyShop$Script" 115 6 1 m_Reader_takeName := ⟨hd_Reader_takeName, rfl, _, ⟨"ProphecyShop$Script", "takeName", "(LProphecyShop$Names;)I"⟩, rfl, rfl, wg_738, wg_739, wg_741, wg_742, wg_3, by decide +kernel⟩
theorem hd_Script_takeProphecyKind : hd0 m_Script_takeProphecyKind 0 := hd0_of (by decide +kernel) (by decide +kernel) (by decide +kernel) rfl rfl wg_747
theorem lk_Script_122 : LV "ProphecyShop$Script" 122 6 0 m_Script_takeProphecyKind := ⟨hd_Script_takeProphecyKind, rfl, ⟨_, rfl, rfl⟩, wg_744, wg_746, ws_11, wg_5⟩
theorem lk_Script_80_6 : LU "ProphecyShop$Script" 80 6 2 m_Reader_takeNumber := ⟨hd_Reader_takeNumber, rfl, _, ⟨"ProphecyShop$Script", "takeNumber", "(II)I"⟩, rfl, rfl, wg_754, wg_755, wg_756, wg_532, wg_3, by decide +kernel⟩
theorem lk_Script_44_6 : LU "ProphecyShop$Script" 44 6 1 m_Reader_seesSign := ⟨hd_Reader_seesSign, rfl, _, ⟨"ProphecyShop$Script", "seesSign", "(C)Z"⟩, rfl, rfl, wg_700, wg_701, wg_703, wg_548, wg_3, by decide +kernel⟩
theorem lk_Script_55_6 : LU "ProphecyShop$Script" 55 6 1 m_Reader_fail := ⟨hd_Reader_fail, rfl, _, ⟨"ProphecyShop$Script", "fail", "(I)V"⟩, rfl, rfl, wg_769, wg_770, wg_771, wg_522, wg_3, by decide +kernel⟩
theorem hd_Script_addCommand : hd0 m_Script_addCommand 2 := hd0_of (by decide +kernel) (by decide +kernel) (by decide +kernel) rfl rfl wg_730
theorem lk_Script_65 : LV "ProphecyShop$Script" 65 6 2 m_Script_addCommand := ⟨hd_Script_addCommand, rfl, ⟨_, rfl, rfl⟩, wg_727, wg_729, ws_9, wg_5⟩
theorem hd_Script_openRepeat : hd0 m_Script_openRepeat 0 := hd0_of (by decide +kernel) (by decide +kernel) (by decide +kernel) rfl rfl wg_768
theorem lk_Script_95 : LV "ProphecyShop$Script" 95 6 0 m_Script_openRepeat := ⟨hd_Script_openRepeat, rfl, ⟨_, rfl, rfl⟩, wg_765, wg_767, ws_13, wg_5⟩
theorem hd_Script_readHappen : hd0 m_Script_readHappen 2 := hd0_of (by decide +kernel) (by decide +kernel) (by decide +kernel) rfl rfl wg_761
theorem lk_Script_75 : LV "ProphecyShop$Script" 75 6 2 m_Script_readHappen := ⟨hd_Script_readHappen, rfl, ⟨_, rfl, rfl⟩, wg_758, wg_760, ws_12, wg_5⟩
theorem hd_Script_readSell : hd0 m_Script_readSell 2 := hd0_of (by decide +kernel) (by decide +kernel) (by decide +kernel) rfl rfl wg_737
theorem lk_Script_69 : LV "ProphecyShop$Script" 69 6 2 m_Script_readSell := ⟨hd_Script_readSell, rfl, ⟨_, rfl, rfl⟩, wg_734, wg_736, ws_10, wg_5⟩
theorem lk_Script_34_6 : LU "ProphecyShop$Script" 34 6 0 m_Reader_begin := ⟨hd_Reader_begin, rfl, _, ⟨"ProphecyShop$Script", "begin", "()V"⟩, rfl, rfl, wg_694, wg_695, wg_696, wg_482, wg_3, by decide +kernel⟩
theorem lk_Script_40_6 : LU "ProphecyShop$Script" 40 6 0 m_Reader_seesEnd := ⟨hd_Reader_seesEnd, rfl, _, ⟨"ProphecyShop$Script", "seesEnd", "()Z"⟩, rfl, rfl, wg_697, wg_698, wg_699, wg_618, wg_3, by decide +kernel⟩
theorem hd_Script_readCommand : hd0 m_Script_readCommand 1 := hd0_of (by decide +kernel) (by decide +kernel) (by decide +kernel) rfl rfl wg_722
theorem lk_Script_51 : LV "ProphecyShop$Script" 51 6 1 m_Script_readCommand := ⟨hd_Script_readCommand, rfl, ⟨_, rfl, rfl⟩, wg_719, wg_721, ws_8, wg_5⟩
theorem hd_Script_closeRepeat : hd0 m_Script_closeRepeat 0 := hd0_of (by decide +kernel) (by decide +kernel) (by decide +kernel) rfl rfl wg_707
theorem lk_Script_48 : LV "ProphecyShop$Script" 48 6 0 m_Script_closeRepeat := ⟨hd_Script_closeRepeat, rfl, ⟨_, rfl, rfl⟩, wg_704, wg_706, ws_5, wg_5⟩
theorem lk_Shop_113 : LV "ProphecyShop$Shop" 113 9 1 m_Shop_coinsOf := ⟨hd_Shop_coinsOf, rfl, ⟨_, rfl, rfl⟩, wg_812, wg_813, wg_814, wg_9⟩
theorem hd_Shop_faultOfSale : hd0 m_Shop_faultOfSale 7 := hd0_of (by decide +kernel) (by decide +kernel) (by decide +kernel) rfl rfl wg_809
theorem lk_Script_194 : LV "ProphecyShop$Script" 194 9 7 m_Shop_faultOfSale := ⟨hd_Shop_faultOfSale, rfl, ⟨_, rfl, rfl⟩, wg_806, wg_807, wg_808, wg_9⟩
theorem lk_Script_197 : LV "ProphecyShop$Script" 197 9 2 m_Shop_faultOfHappening := ⟨hd_Shop_faultOfHappening, rfl, ⟨_, rfl, rfl⟩, wg_816, wg_817, wg_818, wg_9⟩
theorem lk_Script_200 : LV "ProphecyShop$Script" 200 9 1 m_Shop_faultOfRequest := ⟨hd_Shop_faultOfRequest, rfl, ⟨_, rfl, rfl⟩, wg_824, wg_825, wg_826, wg_9⟩
theorem lk_Script_203 : LV "ProphecyShop$Script" 203 9 1 m_Shop_faultOfDays := ⟨hd_Shop_faultOfDays, rfl, ⟨_, rfl, rfl⟩, wg_836, wg_837, wg_838, wg_9⟩
theorem hd_Script_faultOf : hd0 m_Script_faultOf 2 := hd0_of (by decide +kernel) (by decide +kernel) (by decide +kernel) rfl rfl wg_805
theorem lk_Script_174 : m_Script_faultOf.2.2.2.2 = [] ∧ LST "ProphecyShop$Script" 174 2 m_Script_faultOf := ⟨rfl, hd_Script_faultOf, wg_803, wg_804, wg_5⟩
theorem hd_Shop_addProphecy : hd0 m_Shop_addProphecy 7 := hd0_of (by decide +kernel) (by decide +kernel) (by decide +kernel) rfl rfl wg_843
theorem lk_Script_178 : LV "ProphecyShop$Script" 178 9 7 m_Shop_addProphecy := ⟨hd_Shop_addProphecy, rfl, ⟨_, rfl, rfl⟩, wg_840, wg_841, wg_842, wg_9⟩
theorem lk_Script_184 : LV "ProphecyShop$Script" 184 9 2 m_Shop_noteHappening := ⟨hd_Shop_noteHappening, rfl, ⟨_, rfl, rfl⟩, wg_848, wg_849, wg_850, wg_9⟩
theorem lk_Script_187 : LV "ProphecyShop$Script" 187 9 1 m_Shop_addRequest := ⟨hd_Shop_addRequest, rfl, ⟨_, rfl, rfl⟩, wg_860, wg_861, wg_862, wg_9⟩
theorem lk_Script_191 : LV "ProphecyShop$Script" 191 9 1 m_Shop_passDays := ⟨hd_Shop_passDays, rfl, ⟨_, rfl, rfl⟩, wg_864, wg_865, wg_866, wg_9⟩
theorem hd_Script_perform : hd0 m_Script_perform 2 := hd0_of (by decide +kernel) (by decide +kernel) (by decide +kernel) rfl rfl wg_802
theorem lk_Script_170 : m_Script_perform.2.2.2.2 = [] ∧ LST "ProphecyShop$Script" 170 2 m_Script_perform := ⟨rfl, hd_Script_perform, wg_800, wg_801, wg_5⟩
theorem hd_Script_readFor : hd0 m_Script_readFor 1 := hd0_of (by decide +kernel) (by decide +kernel) (by decide +kernel) rfl rfl wg_693
theorem lk_ProphecyShop_133 : LV "ProphecyShop" 133 6 1 m_Script_readFor := ⟨hd_Script_readFor, rfl, ⟨_, rfl, rfl⟩, wg_690, wg_691, wg_692, wg_5⟩
theorem hd_Script_execute : hd0 m_Script_execute 1 := hd0_of (by decide +kernel) (by decide +kernel) (by decide +kernel) rfl rfl wg_798
theorem lk_ProphecyShop_142 : LV "ProphecyShop" 142 6 1 m_Script_execute := ⟨hd_Script_execute, rfl, ⟨_, rfl, rfl⟩, wg_795, wg_796, wg_797, wg_5⟩
theorem lk_ProphecyShop_362 : LV "ProphecyShop" 362 9 7 m_Shop_faultOfSale := ⟨hd_Shop_faultOfSale, rfl, ⟨_, rfl, rfl⟩, wg_1603, wg_807, wg_808, wg_9⟩
theorem lk_ProphecyShop_365 : LV "ProphecyShop" 365 9 7 m_Shop_addProphecy := ⟨hd_Shop_addProphecy, rfl, ⟨_, rfl, rfl⟩, wg_1609, wg_841, wg_842, wg_9⟩
theorem hd_P_sellAny : hd0 m_P_sellAny 7 := hd0_of (by decide +kernel) (by decide +kernel) (by decide +kernel) rfl rfl wg_1602
theorem lk_ProphecyShop_305 : LV "ProphecyShop" 305 12 7 m_P_sellAny := ⟨hd_P_sellAny, rfl, ⟨_, rfl, rfl⟩, wg_1599, wg_1601, ws_24, wg_1⟩
theorem lk_ProphecyShop_185 : LV "ProphecyShop" 185 9 2 m_Shop_countHappenings := ⟨hd_Shop_countHappenings, rfl, ⟨_, rfl, rfl⟩, wg_1427, wg_976, wg_977, wg_9⟩
theorem hd_History_takeBack : hd0 m_History_takeBack 1 := hd0_of (by decide +kernel) (by decide +kernel) (by decide +kernel) rfl rfl wg_1674
theorem lk_ProphecyShop_351 : LV "ProphecyShop" 351 2 1 m_History_takeBack := ⟨hd_History_takeBack, rfl, ⟨_, rfl, rfl⟩, wg_1671, wg_1672, wg_1673, wg_12⟩
theorem hd_R_puts : hd0 m_R_puts 3 := hd0_of (by decide +kernel) (by decide +kernel) (by decide +kernel) rfl rfl wg_2029
theorem lk_ProphecyShopModel_80 : LV "ProphecyShopModel" 80 13 3 m_R_puts := ⟨hd_R_puts, rfl, ⟨_, rfl, rfl⟩, wg_2026, wg_2028, ws_73, wg_18⟩
theorem hd_R_ofOwl : hd0 m_R_ofOwl 2 := hd0_of (by decide +kernel) (by decide +kernel) (by decide +kernel) rfl rfl wg_2077
theorem lk_ProphecyShopModel_95 : LV "ProphecyShopModel" 95 13 2 m_R_ofOwl := ⟨hd_R_ofOwl, rfl, ⟨_, rfl, rfl⟩, wg_2074, wg_2076, ws_85, wg_18⟩
theorem hd_R_putOwl : hd0 m_R_putOwl 3 := hd0_of (by decide +kernel) (by decide +kernel) (by decide +kernel) rfl rfl wg_1801
theorem lk_ProphecyShopModel_104 : LV "ProphecyShopModel" 104 13 3 m_R_putOwl := ⟨hd_R_putOwl, rfl, ⟨_, rfl, rfl⟩, wg_1798, wg_1800, ws_47, wg_18⟩
theorem hd_R_of : hd0 m_R_of 2 := hd0_of (by decide +kernel) (by decide +kernel) (by decide +kernel) rfl rfl wg_2049
theorem lk_ProphecyShopModel_84 : LV "ProphecyShopModel" 84 13 2 m_R_of := ⟨hd_R_of, rfl, ⟨_, rfl, rfl⟩, wg_2046, wg_2048, ws_78, wg_18⟩
theorem hd_R_refund : hd0 m_R_refund 1 := hd0_of (by decide +kernel) (by decide +kernel) (by decide +kernel) rfl rfl wg_2093
theorem lk_ProphecyShopModel_91 : LV "ProphecyShopModel" 91 13 1 m_R_refund := ⟨hd_R_refund, rfl, ⟨_, rfl, rfl⟩, wg_2090, wg_2092, ws_89, wg_18⟩
theorem hd_R_idle : hd0 m_R_idle 0 := hd0_of (by decide +kernel) (by decide +kernel) (by decide +kernel) rfl rfl wg_2097
theorem lk_ProphecyShopModel_98 : LV "ProphecyShopModel" 98 13 0 m_R_idle := ⟨hd_R_idle, rfl, ⟨_, rfl, rfl⟩, wg_2094, wg_2096, ws_90, wg_18⟩
theorem hd_R_ofCustomer : hd0 m_R_ofCustomer 2 := hd0_of (by decide +kernel) (by decide +kernel) (by decide +kernel) rfl rfl wg_2021
theorem lk_ProphecyShopModel_101 : LV "ProphecyShopModel" 101 13 2 m_R_ofCustomer := ⟨hd_R_ofCustomer, rfl, ⟨_, rfl, rfl⟩, wg_2018, wg_2020, ws_71, wg_18⟩
theorem hd_R_wouldAnswer : hd0 m_R_wouldAnswer 1 := hd0_of (by decide +kernel) (by decide +kernel) (by decide +kernel) rfl rfl wg_2089
theorem lk_ProphecyShopModel_107 : LV "ProphecyShopModel" 107 13 1 m_R_wouldAnswer := ⟨hd_R_wouldAnswer, rfl, ⟨_, rfl, rfl⟩, wg_2086, wg_2088, ws_88, wg_18⟩
theorem hd_R_flies : hd0 m_R_flies 1 := hd0_of (by decide +kernel) (by decide +kernel) (by decide +kernel) rfl rfl wg_2101
theorem lk_ProphecyShopModel_110 : LV "ProphecyShopModel" 110 13 1 m_R_flies := ⟨hd_R_flies, rfl, ⟨_, rfl, rfl⟩, wg_2098, wg_2100, ws_91, wg_18⟩
theorem hd_R_decides : hd0 m_R_decides 2 := hd0_of (by decide +kernel) (by decide +kernel) (by decide +kernel) rfl rfl wg_2053
theorem lk_ProphecyShopModel_114 : LV "ProphecyShopModel" 114 13 2 m_R_decides := ⟨hd_R_decides, rfl, ⟨_, rfl, rfl⟩, wg_2050, wg_2052, ws_79, wg_18⟩
theorem hd_R_lands : hd0 m_R_lands 1 := hd0_of (by decide +kernel) (by decide +kernel) (by decide +kernel) rfl rfl wg_2081
theorem lk_ProphecyShopModel_118 : LV "ProphecyShopModel" 118 13 1 m_R_lands := ⟨hd_R_lands, rfl, ⟨_, rfl, rfl⟩, wg_2078, wg_2080, ws_86, wg_18⟩
theorem hd_R_handles : hd0 m_R_handles 0 := hd0_of (by decide +kernel) (by decide +kernel) (by decide +kernel) rfl rfl wg_2085
theorem lk_ProphecyShopModel_121 : LV "ProphecyShopModel" 121 13 0 m_R_handles := ⟨hd_R_handles, rfl, ⟨_, rfl, rfl⟩, wg_2082, wg_2084, ws_87, wg_18⟩
theorem hd_R_in : hd0 m_R_in 3 := hd0_of (by decide +kernel) (by decide +kernel) (by decide +kernel) rfl rfl wg_1717
theorem lk_ProphecyShopModel_76 : m_R_in.2.2.2.2 = [] ∧ LST "ProphecyShopModel" 76 3 m_R_in := ⟨rfl, hd_R_in, wg_1715, wg_1716, wg_18⟩
theorem hd_R_right : hd0 m_R_right 2 := hd0_of (by decide +kernel) (by decide +kernel) (by decide +kernel) rfl rfl wg_1905
theorem lk_ProphecyShopModel_128 : LV "ProphecyShopModel" 128 13 2 m_R_right := ⟨hd_R_right, rfl, ⟨_, rfl, rfl⟩, wg_1902, wg_1904, ws_49, wg_18⟩
theorem hd_R_changes : hd0 m_R_changes 0 := hd0_of (by decide +kernel) (by decide +kernel) (by decide +kernel) rfl rfl wg_2025
theorem lk_ProphecyShopModel_382 : LV "ProphecyShopModel" 382 13 0 m_R_changes := ⟨hd_R_changes, rfl, ⟨_, rfl, rfl⟩, wg_2022, wg_2024, ws_72, wg_18⟩
theorem hd_R_dayPasses : hd0 m_R_dayPasses 0 := hd0_of (by decide +kernel) (by decide +kernel) (by decide +kernel) rfl rfl wg_2073
theorem lk_ProphecyShopModel_370 : LV "ProphecyShopModel" 370 13 0 m_R_dayPasses := ⟨hd_R_dayPasses, rfl, ⟨_, rfl, rfl⟩, wg_2070, wg_2072, ws_84, wg_18⟩
theorem hd_R_advancing : hd0 m_R_advancing 1 := hd0_of (by decide +kernel) (by decide +kernel) (by decide +kernel) rfl rfl wg_2069
theorem lk_ProphecyShopModel_304 : LV "ProphecyShopModel" 304 13 1 m_R_advancing := ⟨hd_R_advancing, rfl, ⟨_, rfl, rfl⟩, wg_2066, wg_2068, ws_83, wg_18⟩
theorem hd_R_ofNote : hd0 m_R_ofNote 2 := hd0_of (by decide +kernel) (by decide +kernel) (by decide +kernel) rfl rfl wg_2041
theorem lk_ProphecyShopModel_88 : LV "ProphecyShopModel" 88 13 2 m_R_ofNote := ⟨hd_R_ofNote, rfl, ⟨_, rfl, rfl⟩, wg_2038, wg_2040, ws_76, wg_18⟩
theorem hd_R_noted : hd0 m_R_noted 3 := hd0_of (by decide +kernel) (by decide +kernel) (by decide +kernel) rfl rfl wg_2037
theorem lk_ProphecyShopModel_339 : LV "ProphecyShopModel" 339 13 3 m_R_noted := ⟨hd_R_noted, rfl, ⟨_, rfl, rfl⟩, wg_2034, wg_2036, ws_75, wg_18⟩
theorem hd_R_isProphecy : hd0 m_R_isProphecy 1 := hd0_of (by decide +kernel) (by decide +kernel) (by decide +kernel) rfl rfl wg_2061
theorem lk_ProphecyShopModel_346 : LV "ProphecyShopModel" 346 13 1 m_R_isProphecy := ⟨hd_R_isProphecy, rfl, ⟨_, rfl, rfl⟩, wg_2058, wg_2060, ws_81, wg_18⟩
theorem hd_R_asked : hd0 m_R_asked 2 := hd0_of (by decide +kernel) (by decide +kernel) (by decide +kernel) rfl rfl wg_2165
theorem lk_ProphecyShopModel_349 : LV "ProphecyShopModel" 349 13 2 m_R_asked := ⟨hd_R_asked, rfl, ⟨_, rfl, rfl⟩, wg_2162, wg_2164, ws_95, wg_18⟩
theorem hd_R_feeds : hd0 m_R_feeds 1 := hd0_of (by decide +kernel) (by decide +kernel) (by decide +kernel) rfl rfl wg_1901
theorem lk_ProphecyShopModel_125 : LV "ProphecyShopModel" 125 13 1 m_R_feeds := ⟨hd_R_feeds, rfl, ⟨_, rfl, rfl⟩, wg_1898, wg_1900, ws_48, wg_18⟩
theorem hd_R_inQueue : hd0 m_R_inQueue 1 := hd0_of (by decide +kernel) (by decide +kernel) (by decide +kernel) rfl rfl wg_2065
theorem lk_ProphecyShopModel_352 : LV "ProphecyShopModel" 352 13 1 m_R_inQueue := ⟨hd_R_inQueue, rfl, ⟨_, rfl, rfl⟩, wg_2062, wg_2064, ws_82, wg_18⟩
theorem hd_R_asking : hd0 m_R_asking 1 := hd0_of (by decide +kernel) (by decide +kernel) (by decide +kernel) rfl rfl wg_2057
theorem lk_ProphecyShopModel_301 : LV "ProphecyShopModel" 301 13 1 m_R_asking := ⟨hd_R_asking, rfl, ⟨_, rfl, rfl⟩, wg_2054, wg_2056, ws_80, wg_18⟩
theorem hd_R_tells : hd0 m_R_tells 1 := hd0_of (by decide +kernel) (by decide +kernel) (by decide +kernel) rfl rfl wg_2109
theorem lk_ProphecyShopModel_324 : LV "ProphecyShopModel" 324 13 1 m_R_tells := ⟨hd_R_tells, rfl, ⟨_, rfl, rfl⟩, wg_2106, wg_2108, ws_92, wg_18⟩
theorem hd_R_tries : hd0 m_R_tries 0 := hd0_of (by decide +kernel) (by decide +kernel) (by decide +kernel) rfl rfl wg_2270
theorem lk_ProphecyShopModel_364 : LV "ProphecyShopModel" 364 13 0 m_R_tries := ⟨hd_R_tries, rfl, ⟨_, rfl, rfl⟩, wg_2267, wg_2269, ws_98, wg_18⟩
theorem hd_R_back : hd0 m_R_back 1 := hd0_of (by decide +kernel) (by decide +kernel) (by decide +kernel) rfl rfl wg_2274
theorem lk_ProphecyShopModel_367 : LV "ProphecyShopModel" 367 13 1 m_R_back := ⟨hd_R_back, rfl, ⟨_, rfl, rfl⟩, wg_2271, wg_2273, ws_99, wg_18⟩
theorem lk_ProphecyShopModel_54 : LV "ProphecyShopModel" 54 14 0 m_String_length_8abf5 := ⟨hd_String_length_8abf5, rfl, ⟨_, rfl, rfl⟩, wg_1701, wg_415, wg_416, wg_13⟩
theorem lk_ProphecyShopModel_60 : LV "ProphecyShopModel" 60 14 1 m_String_charAt_5068e := ⟨hd_String_charAt_5068e, rfl, ⟨_, rfl, rfl⟩, wg_1702, wg_425, wg_426, wg_13⟩
theorem hd_R_isWord : hd0 m_R_isWord 1 := hd0_of (by decide +kernel) (by decide +kernel) (by decide +kernel) rfl rfl wg_1728
theorem lk_ProphecyShopModel_200 : LV "ProphecyShopModel" 200 13 1 m_R_isWord := ⟨hd_R_isWord, rfl, ⟨_, rfl, rfl⟩, wg_1725, wg_1727, ws_30, wg_18⟩
theorem hd_R_manyIn : hd0 m_R_manyIn 1 := hd0_of (by decide +kernel) (by decide +kernel) (by decide +kernel) rfl rfl wg_2237
theorem lk_ProphecyShopModel_358 : LV "ProphecyShopModel" 358 13 1 m_R_manyIn := ⟨hd_R_manyIn, rfl, ⟨_, rfl, rfl⟩, wg_2234, wg_2236, ws_97, wg_18⟩
theorem hd_R_named : hd0 m_R_named 4 := hd0_of (by decide +kernel) (by decide +kernel) (by decide +kernel) rfl rfl wg_1770
theorem lk_ProphecyShopModel_178 : LV "ProphecyShopModel" 178 13 4 m_R_named := ⟨hd_R_named, rfl, ⟨_, rfl, rfl⟩, wg_1767, wg_1769, ws_40, wg_18⟩
theorem hd_R_isCustomer : hd0 m_R_isCustomer 1 := hd0_of (by decide +kernel) (by decide +kernel) (by decide +kernel) rfl rfl wg_2009
theorem lk_ProphecyShopModel_327 : LV "ProphecyShopModel" 327 13 1 m_R_isCustomer := ⟨hd_R_isCustomer, rfl, ⟨_, rfl, rfl⟩, wg_2006, wg_2008, ws_68, wg_18⟩
theorem hd_R_isEvent : hd0 m_R_isEvent 1 := hd0_of (by decide +kernel) (by decide +kernel) (by decide +kernel) rfl rfl wg_2013
theorem lk_ProphecyShopModel_330 : LV "ProphecyShopModel" 330 13 1 m_R_isEvent := ⟨hd_R_isEvent, rfl, ⟨_, rfl, rfl⟩, wg_2010, wg_2012, ws_69, wg_18⟩
theorem hd_R_isPlace : hd0 m_R_isPlace 1 := hd0_of (by decide +kernel) (by decide +kernel) (by decide +kernel) rfl rfl wg_2017
theorem lk_ProphecyShopModel_333 : LV "ProphecyShopModel" 333 13 1 m_R_isPlace := ⟨hd_R_isPlace, rfl, ⟨_, rfl, rfl⟩, wg_2014, wg_2016, ws_70, wg_18⟩
theorem hd_R_hits : hd0 m_R_hits 3 := hd0_of (by decide +kernel) (by decide +kernel) (by decide +kernel) rfl rfl wg_2045
theorem lk_ProphecyShopModel_385 : LV "ProphecyShopModel" 385 13 3 m_R_hits := ⟨hd_R_hits, rfl, ⟨_, rfl, rfl⟩, wg_2042, wg_2044, ws_77, wg_18⟩
theorem hd_R_lengths : hd0 m_R_lengths 3 := hd0_of (by decide +kernel) (by decide +kernel) (by decide +kernel) rfl rfl wg_2001
theorem lk_ProphecyShopModel_292 : LV "ProphecyShopModel" 292 13 3 m_R_lengths := ⟨hd_R_lengths, rfl, ⟨_, rfl, rfl⟩, wg_1998, wg_2000, ws_66, wg_18⟩
theorem hd_R_selling : hd0 m_R_selling 4 := hd0_of (by decide +kernel) (by decide +kernel) (by decide +kernel) rfl rfl wg_2005
theorem lk_ProphecyShopModel_295 : LV "ProphecyShopModel" 295 13 4 m_R_selling := ⟨hd_R_selling, rfl, ⟨_, rfl, rfl⟩, wg_2002, wg_2004, ws_67, wg_18⟩
theorem hd_R_happening : hd0 m_R_happening 2 := hd0_of (by decide +kernel) (by decide +kernel) (by decide +kernel) rfl rfl wg_2033
theorem lk_ProphecyShopModel_298 : LV "ProphecyShopModel" 298 13 2 m_R_happening := ⟨hd_R_happening, rfl, ⟨_, rfl, rfl⟩, wg_2030, wg_2032, ws_74, wg_18⟩
theorem hd_R_packed : hd0 m_R_packed 2 := hd0_of (by decide +kernel) (by decide +kernel) (by decide +kernel) rfl rfl wg_1762
theorem lk_ProphecyShopModel_175 : LV "ProphecyShopModel" 175 13 2 m_R_packed := ⟨hd_R_packed, rfl, ⟨_, rfl, rfl⟩, wg_1759, wg_1761, ws_38, wg_18⟩
theorem hd_R_customerNamed : hd0 m_R_customerNamed 1 := hd0_of (by decide +kernel) (by decide +kernel) (by decide +kernel) rfl rfl wg_1792
theorem lk_ProphecyShopModel_195 : LV "ProphecyShopModel" 195 13 1 m_R_customerNamed := ⟨hd_R_customerNamed, rfl, ⟨_, rfl, rfl⟩, wg_1789, wg_1791, ws_45, wg_18⟩
theorem hd_R_seen : hd0 m_R_seen 1 := hd0_of (by decide +kernel) (by decide +kernel) (by decide +kernel) rfl rfl wg_1714
theorem lk_ProphecyShopModel_138 : LV "ProphecyShopModel" 138 13 1 m_R_seen := ⟨hd_R_seen, rfl, ⟨_, rfl, rfl⟩, wg_1711, wg_1713, ws_28, wg_18⟩
theorem hd_R_finds : hd0 m_R_finds 2 := hd0_of (by decide +kernel) (by decide +kernel) (by decide +kernel) rfl rfl wg_2141
theorem lk_ProphecyShopModel_336 : LV "ProphecyShopModel" 336 13 2 m_R_finds := ⟨hd_R_finds, rfl, ⟨_, rfl, rfl⟩, wg_2138, wg_2140, ws_93, wg_18⟩
theorem hd_R_allAt : hd0 m_R_allAt 1 := hd0_of (by decide +kernel) (by decide +kernel) (by decide +kernel) rfl rfl wg_2153
theorem lk_ProphecyShopModel_343 : LV "ProphecyShopModel" 343 13 1 m_R_allAt := ⟨hd_R_allAt, rfl, ⟨_, rfl, rfl⟩, wg_2150, wg_2152, ws_94, wg_18⟩
theorem hd_R_looksAtName : hd0 m_R_looksAtName 0 := hd0_of (by decide +kernel) (by decide +kernel) (by decide +kernel) rfl rfl wg_1758
theorem lk_ProphecyShopModel_182 : LV "ProphecyShopModel" 182 13 0 m_R_looksAtName := ⟨hd_R_looksAtName, rfl, ⟨_, rfl, rfl⟩, wg_1755, wg_1757, ws_37, wg_18⟩
theorem hd_R_eventNamed : hd0 m_R_eventNamed 1 := hd0_of (by decide +kernel) (by decide +kernel) (by decide +kernel) rfl rfl wg_1766
theorem lk_ProphecyShopModel_185 : LV "ProphecyShopModel" 185 13 1 m_R_eventNamed := ⟨hd_R_eventNamed, rfl, ⟨_, rfl, rfl⟩, wg_1763, wg_1765, ws_39, wg_18⟩
theorem hd_R_passesName : hd0 m_R_passesName 1 := hd0_of (by decide +kernel) (by decide +kernel) (by decide +kernel) rfl rfl wg_1774
theorem lk_ProphecyShopModel_188 : LV "ProphecyShopModel" 188 13 1 m_R_passesName := ⟨hd_R_passesName, rfl, ⟨_, rfl, rfl⟩, wg_1771, wg_1773, ws_41, wg_18⟩
theorem hd_R_placeNamed : hd0 m_R_placeNamed 1 := hd0_of (by decide +kernel) (by decide +kernel) (by decide +kernel) rfl rfl wg_1783
theorem lk_ProphecyShopModel_192 : LV "ProphecyShopModel" 192 13 1 m_R_placeNamed := ⟨hd_R_placeNamed, rfl, ⟨_, rfl, rfl⟩, wg_1780, wg_1782, ws_43, wg_18⟩
theorem hd_R_readsEvent : hd0 m_R_readsEvent 0 := hd0_of (by decide +kernel) (by decide +kernel) (by decide +kernel) rfl rfl wg_1753
theorem lk_ProphecyShopModel_216 : LV "ProphecyShopModel" 216 13 0 m_R_readsEvent := ⟨hd_R_readsEvent, rfl, ⟨_, rfl, rfl⟩, wg_1750, wg_1752, ws_36, wg_18⟩
theorem hd_R_readsPlace : hd0 m_R_readsPlace 0 := hd0_of (by decide +kernel) (by decide +kernel) (by decide +kernel) rfl rfl wg_1778
theorem lk_ProphecyShopModel_219 : LV "ProphecyShopModel" 219 13 0 m_R_readsPlace := ⟨hd_R_readsPlace, rfl, ⟨_, rfl, rfl⟩, wg_1775, wg_1777, ws_42, wg_18⟩
theorem hd_R_readsCustomer : hd0 m_R_readsCustomer 0 := hd0_of (by decide +kernel) (by decide +kernel) (by decide +kernel) rfl rfl wg_1788
theorem lk_ProphecyShopModel_224 : LV "ProphecyShopModel" 224 13 0 m_R_readsCustomer := ⟨hd_R_readsCustomer, rfl, ⟨_, rfl, rfl⟩, wg_1785, wg_1787, ws_44, wg_18⟩
theorem hd_R_readsOwl : hd0 m_R_readsOwl 0 := hd0_of (by decide +kernel) (by decide +kernel) (by decide +kernel) rfl rfl wg_1796
theorem lk_ProphecyShopModel_227 : LV "ProphecyShopModel" 227 13 0 m_R_readsOwl := ⟨hd_R_readsOwl, rfl, ⟨_, rfl, rfl⟩, wg_1793, wg_1795, ws_46, wg_18⟩
theorem hd_R_readsSetup : hd0 m_R_readsSetup 0 := hd0_of (by decide +kernel) (by decide +kernel) (by decide +kernel) rfl rfl wg_1723
theorem lk_ProphecyShopModel_70 : LV "ProphecyShopModel" 70 13 0 m_R_readsSetup := ⟨hd_R_readsSetup, rfl, ⟨_, rfl, rfl⟩, wg_1720, wg_1722, ws_29, wg_18⟩
theorem hd_R_askedOwl : hd0 m_R_askedOwl 2 := hd0_of (by decide +kernel) (by decide +kernel) (by decide +kernel) rfl rfl wg_2225
theorem lk_ProphecyShopModel_355 : LV "ProphecyShopModel" 355 13 2 m_R_askedOwl := ⟨hd_R_askedOwl, rfl, ⟨_, rfl, rfl⟩, wg_2222, wg_2224, ws_96, wg_18⟩
theorem hd_R_takesCustomer : hd0 m_R_takesCustomer 0 := hd0_of (by decide +kernel) (by decide +kernel) (by decide +kernel) rfl rfl wg_1966
theorem lk_ProphecyShopModel_261 : LV "ProphecyShopModel" 261 13 0 m_R_takesCustomer := ⟨hd_R_takesCustomer, rfl, ⟨_, rfl, rfl⟩, wg_1963, wg_1965, ws_58, wg_18⟩
theorem hd_R_takesSort : hd0 m_R_takesSort 0 := hd0_of (by decide +kernel) (by decide +kernel) (by decide +kernel) rfl rfl wg_1970
theorem lk_ProphecyShopModel_264 : LV "ProphecyShopModel" 264 13 0 m_R_takesSort := ⟨hd_R_takesSort, rfl, ⟨_, rfl, rfl⟩, wg_1967, wg_1969, ws_59, wg_18⟩
theorem hd_R_takesEvent : hd0 m_R_takesEvent 0 := hd0_of (by decide +kernel) (by decide +kernel) (by decide +kernel) rfl rfl wg_1977
theorem lk_ProphecyShopModel_267 : LV "ProphecyShopModel" 267 13 0 m_R_takesEvent := ⟨hd_R_takesEvent, rfl, ⟨_, rfl, rfl⟩, wg_1974, wg_1976, ws_60, wg_18⟩
theorem hd_R_takesPlace : hd0 m_R_takesPlace 0 := hd0_of (by decide +kernel) (by decide +kernel) (by decide +kernel) rfl rfl wg_1981
theorem lk_ProphecyShopModel_270 : LV "ProphecyShopModel" 270 13 0 m_R_takesPlace := ⟨hd_R_takesPlace, rfl, ⟨_, rfl, rfl⟩, wg_1978, wg_1980, ws_61, wg_18⟩
theorem hd_R_readsSale : hd0 m_R_readsSale 1 := hd0_of (by decide +kernel) (by decide +kernel) (by decide +kernel) rfl rfl wg_1962
theorem lk_ProphecyShopModel_273 : LV "ProphecyShopModel" 273 13 1 m_R_readsSale := ⟨hd_R_readsSale, rfl, ⟨_, rfl, rfl⟩, wg_1959, wg_1961, ws_57, wg_18⟩
theorem hd_R_writes : hd0 m_R_writes 1 := hd0_of (by decide +kernel) (by decide +kernel) (by decide +kernel) rfl rfl wg_2314
theorem lk_ProphecyShopModel_391 : LV "ProphecyShopModel" 391 13 1 m_R_writes := ⟨hd_R_writes, rfl, ⟨_, rfl, rfl⟩, wg_2311, wg_2313, ws_101, wg_18⟩
theorem ax_ProphecyShop_112_g : ∀ w ∈ (vx_atS "ProphecyShop" 112 "java/lang/IllegalStateException" ["java/lang/RuntimeException", "java/lang/Exception"]).filter goodWord, w ∈ lw_T := by decide +kernel
theorem ax_ProphecyShop_112_b : ∀ w ∈ (vx_atS "ProphecyShop" 112 "java/lang/IllegalStateException" ["java/lang/RuntimeException", "java/lang/Exception"]).filter (fun w => !goodWord w), w ∈ lw_T ∧ isBad w = true := by decide +kernel
theorem ax_ProphecyShop_112 : ∀ w ∈ vx_atS "ProphecyShop" 112 "java/lang/IllegalStateException" ["java/lang/RuntimeException", "java/lang/Exception"], w ∈ lw_good ∨ (w ∈ lw_T ∧ isBad w = true) := fun w hw => by
  cases hg : goodWord w with
  | true => exact Or.inl (lw_g (ax_ProphecyShop_112_g w (List.mem_filter.mpr ⟨hw, hg⟩)) hg)
  | false => exact Or.inr (ax_ProphecyShop_112_b w (List.mem_filter.mpr ⟨hw, by rw [hg]; rfl⟩))
theorem ax_ProphecyShop_112_o : ∀ w ∈ Cond.classLink "ProphecyShop" 108 "java/lang/IllegalStateException" :: Cond.initialized "java/lang/IllegalStateException" :: vx_atS "ProphecyShop" 112 "java/lang/IllegalStateException" ["java/lang/RuntimeException", "java/lang/Exception"], vx_ot w = true := by decide +kernel
theorem th_P_throwFor_37 : THW m_P_throwFor 37 "java/lang/IllegalStateException" := ⟨108, 375, 112, ["java/lang/RuntimeException", "java/lang/Exception"], "not possible now", 23, by decide +kernel, by decide +kernel, by decide, wg_1358, wg_22, by decide +kernel, ax_ProphecyShop_112, ax_ProphecyShop_112_o, d_P_throwFor_37, d_P_throwFor_40, d_P_throwFor_41, d_P_throwFor_44, d_P_throwFor_47⟩
theorem ax_ProphecyShop_126_g : ∀ w ∈ (vx_atS "ProphecyShop" 126 "java/lang/IllegalArgumentException" ["java/lang/RuntimeException", "java/lang/Exception"]).filter goodWord, w ∈ lw_T := by decide +kernel
theorem ax_ProphecyShop_126_b : ∀ w ∈ (vx_atS "ProphecyShop" 126 "java/lang/IllegalArgumentException" ["java/lang/RuntimeException", "java/lang/Exception"]).filter (fun w => !goodWord w), w ∈ lw_T ∧ isBad w = true := by decide +kernel
theorem ax_ProphecyShop_126 : ∀ w ∈ vx_atS "ProphecyShop" 126 "java/lang/IllegalArgumentException" ["java/lang/RuntimeException", "java/lang/Exception"], w ∈ lw_good ∨ (w ∈ lw_T ∧ isBad w = true) := fun w hw => by
  cases hg : goodWord w with
  | true => exact Or.inl (lw_g (ax_ProphecyShop_126_g w (List.mem_filter.mpr ⟨hw, hg⟩)) hg)
  | false => exact Or.inr (ax_ProphecyShop_126_b w (List.mem_filter.mpr ⟨hw, by rw [hg]; rfl⟩))
theorem ax_ProphecyShop_126_o : ∀ w ∈ Cond.classLink "ProphecyShop" 122 "java/lang/IllegalArgumentException" :: Cond.initialized "java/lang/IllegalArgumentException" :: vx_atS "ProphecyShop" 126 "java/lang/IllegalArgumentException" ["java/lang/RuntimeException", "java/lang/Exception"], vx_ot w = true := by decide +kernel
theorem th_P_throwFor_21 : THW m_P_throwFor 21 "java/lang/IllegalArgumentException" := ⟨122, 373, 126, ["java/lang/RuntimeException", "java/lang/Exception"], "a value is out of range", 22, by decide +kernel, by decide +kernel, by decide, wg_1388, wg_23, by decide +kernel, ax_ProphecyShop_126, ax_ProphecyShop_126_o, d_P_throwFor_21, d_P_throwFor_24, d_P_throwFor_25, d_P_throwFor_28, d_P_throwFor_31⟩
theorem ax_ProphecyShop_372_g : ∀ w ∈ (vx_atS "ProphecyShop" 372 "java/lang/IndexOutOfBoundsException" ["java/lang/RuntimeException", "java/lang/Exception"]).filter goodWord, w ∈ lw_T := by decide +kernel
theorem ax_ProphecyShop_372_b : ∀ w ∈ (vx_atS "ProphecyShop" 372 "java/lang/IndexOutOfBoundsException" ["java/lang/RuntimeException", "java/lang/Exception"]).filter (fun w => !goodWord w), w ∈ lw_T ∧ isBad w = true := by decide +kernel
theorem ax_ProphecyShop_372 : ∀ w ∈ vx_atS "ProphecyShop" 372 "java/lang/IndexOutOfBoundsException" ["java/lang/RuntimeException", "java/lang/Exception"], w ∈ lw_good ∨ (w ∈ lw_T ∧ isBad w = true) := fun w hw => by
  cases hg : goodWord w with
  | true => exact Or.inl (lw_g (ax_ProphecyShop_372_g w (List.mem_filter.mpr ⟨hw, hg⟩)) hg)
  | false => exact Or.inr (ax_ProphecyShop_372_b w (List.mem_filter.mpr ⟨hw, by rw [hg]; rfl⟩))
theorem ax_ProphecyShop_372_o : ∀ w ∈ Cond.classLink "ProphecyShop" 368 "java/lang/IndexOutOfBoundsException" :: Cond.initialized "java/lang/IndexOutOfBoundsException" :: vx_atS "ProphecyShop" 372 "java/lang/IndexOutOfBoundsException" ["java/lang/RuntimeException", "java/lang/Exception"], vx_ot w = true := by decide +kernel
theorem th_P_throwFor_5 : THW m_P_throwFor 5 "java/lang/IndexOutOfBoundsException" := ⟨368, 370, 372, ["java/lang/RuntimeException", "java/lang/Exception"], "no such number", 18, by decide +kernel, by decide +kernel, by decide, wg_1403, wg_25, by decide +kernel, ax_ProphecyShop_372, ax_ProphecyShop_372_o, d_P_throwFor_5, d_P_throwFor_8, d_P_throwFor_9, d_P_throwFor_12, d_P_throwFor_15⟩
theorem th_P_throwIfMissing_4 : THW m_P_throwIfMissing 4 "java/lang/IndexOutOfBoundsException" := ⟨368, 370, 372, ["java/lang/RuntimeException", "java/lang/Exception"], "no such number", 18, by decide +kernel, by decide +kernel, by decide, wg_1403, wg_25, by decide +kernel, ax_ProphecyShop_372, ax_ProphecyShop_372_o, d_P_throwIfMissing_4, d_P_throwIfMissing_7, d_P_throwIfMissing_8, d_P_throwIfMissing_11, d_P_throwIfMissing_14⟩
theorem th_P_append_44 : TH m_P_append 44 "java/lang/IllegalStateException" := ⟨108, 110, 112, ["java/lang/RuntimeException", "java/lang/Exception"], "the text would be too long", 16, by decide +kernel, by decide +kernel, by decide, wg_1358, wg_22, by decide +kernel, ax_ProphecyShop_112, ax_ProphecyShop_112_o, d_P_append_44, d_P_append_47, d_P_append_48, d_P_append_50, d_P_append_53⟩
theorem th_P_cashAfter_11 : THW m_P_cashAfter 11 "java/lang/IllegalArgumentException" := ⟨122, 303, 126, ["java/lang/RuntimeException", "java/lang/Exception"], "the days are out of range", 21, by decide +kernel, by decide +kernel, by decide, wg_1388, wg_23, by decide +kernel, ax_ProphecyShop_126, ax_ProphecyShop_126_o, d_P_cashAfter_11, d_P_cashAfter_14, d_P_cashAfter_15, d_P_cashAfter_18, d_P_cashAfter_21⟩
theorem th_P_countIn_19 : THW m_P_countIn 19 "java/lang/IllegalArgumentException" := ⟨122, 267, 126, ["java/lang/RuntimeException", "java/lang/Exception"], "no such state", 20, by decide +kernel, by decide +kernel, by decide, wg_1388, wg_23, by decide +kernel, ax_ProphecyShop_126, ax_ProphecyShop_126_o, d_P_countIn_19, d_P_countIn_22, d_P_countIn_23, d_P_countIn_26, d_P_countIn_29⟩
theorem ax_ProphecyShop_229_g : ∀ w ∈ ((xnAt "ProphecyShop" 229 "java/util/NoSuchElementException" 13 prog_38_method_4_code "java/lang/RuntimeException" ["java/lang/Exception"]).filter vx_no).filter goodWord, w ∈ lw_T := by decide +kernel
theorem ax_ProphecyShop_229_b : ∀ w ∈ ((xnAt "ProphecyShop" 229 "java/util/NoSuchElementException" 13 prog_38_method_4_code "java/lang/RuntimeException" ["java/lang/Exception"]).filter vx_no).filter (fun w => !goodWord w), w ∈ lw_T ∧ isBad w = true := by decide +kernel
theorem ax_ProphecyShop_229 : ∀ w ∈ (xnAt "ProphecyShop" 229 "java/util/NoSuchElementException" 13 prog_38_method_4_code "java/lang/RuntimeException" ["java/lang/Exception"]).filter vx_no, w ∈ lw_good ∨ (w ∈ lw_T ∧ isBad w = true) := fun w hw => by
  cases hg : goodWord w with
  | true => exact Or.inl (lw_g (ax_ProphecyShop_229_g w (List.mem_filter.mpr ⟨hw, hg⟩)) hg)
  | false => exact Or.inr (ax_ProphecyShop_229_b w (List.mem_filter.mpr ⟨hw, by rw [hg]; rfl⟩))
theorem ax_ProphecyShop_229_o : ∀ w ∈ Cond.classLink "ProphecyShop" 225 "java/util/NoSuchElementException" :: Cond.initialized "java/util/NoSuchElementException" :: (xnAt "ProphecyShop" 229 "java/util/NoSuchElementException" 13 prog_38_method_4_code "java/lang/RuntimeException" ["java/lang/Exception"]).filter vx_no, vx_ot w = true := by decide +kernel
theorem th_P_decidedOn_13 : THN m_P_decidedOn 13 false "java/util/NoSuchElementException" := ⟨225, 227, 229, 13, prog_38_method_4_code, "java/lang/RuntimeException", ["java/lang/Exception"], "the prophecy is open", 19, ⟨by decide +kernel, by decide +kernel, by decide +kernel, by decide +kernel⟩, by decide +kernel, by decide +kernel, by decide +kernel, by decide, wg_1499, wg_26, by decide +kernel, ax_ProphecyShop_229, ax_ProphecyShop_229_o, d_P_decidedOn_13, d_P_decidedOn_16, d_P_decidedOn_17, d_P_decidedOn_19, d_P_decidedOn_22⟩
theorem th_P_restore_26 : THN m_P_restore 26 true "java/util/NoSuchElementException" := ⟨225, 354, 229, 13, prog_38_method_4_code, "java/lang/RuntimeException", ["java/lang/Exception"], "the slot is empty", 25, ⟨by decide +kernel, by decide +kernel, by decide +kernel, by decide +kernel⟩, by decide +kernel, by decide +kernel, by decide +kernel, by decide, wg_1499, wg_26, by decide +kernel, ax_ProphecyShop_229, ax_ProphecyShop_229_o, d_P_restore_26, d_P_restore_29, d_P_restore_30, d_P_restore_33, d_P_restore_36⟩
theorem th_P_truncate_15 : TH m_P_truncate 15 "java/lang/IllegalArgumentException" := ⟨122, 124, 126, ["java/lang/RuntimeException", "java/lang/Exception"], "the length is out of range", 17, by decide +kernel, by decide +kernel, by decide, wg_1388, wg_23, by decide +kernel, ax_ProphecyShop_126, ax_ProphecyShop_126_o, d_P_truncate_15, d_P_truncate_18, d_P_truncate_19, d_P_truncate_21, d_P_truncate_24⟩
theorem th_P_undo_10 : THW m_P_undo 10 "java/lang/IllegalStateException" := ⟨108, 349, 112, ["java/lang/RuntimeException", "java/lang/Exception"], "no change can be undone", 24, by decide +kernel, by decide +kernel, by decide, wg_1358, wg_22, by decide +kernel, ax_ProphecyShop_112, ax_ProphecyShop_112_o, d_P_undo_10, d_P_undo_13, d_P_undo_14, d_P_undo_17, d_P_undo_20⟩
