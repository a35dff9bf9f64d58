/-! the functions read off the bytecode, by program (wip/whole/gen) -/
noncomputable section
abbrev SV : Type := (Nat → Int32) × (Nat → Int32) × (Nat → Int32) × (Nat → Int32) × (Nat → Int32) × Int32 × (Nat → Int32) × (Nat → Int32) × (Nat → Int32) × Int32 × Int32 × (Nat → Int32) × Int32 × Int32 × Int32 × Int64
def f_TR_requirePlace (p0 : Int32) : Option Nat := some (if p0 = 0 then 1 else 0)
def f_TR_requireArgument (p0 : Int32) : Option Nat := some (if p0 = 0 then 2 else 0)
def f_TR_requireState (p0 : Int32) : Option Nat := some (if p0 = 0 then 3 else 0)
def f_I_bitCount (p0 : Int32) : Option (Int32) :=
  bnd (p0 - (((p0.toUInt32 >>> (Int32.toUInt32 1 &&& Int32.toUInt32 31)).toInt32) &&& 1431655765)) (fun x0_v9 => bnd ((x0_v9 &&& 858993459) + (((x0_v9.toUInt32 >>> (Int32.toUInt32 2 &&& Int32.toUInt32 31)).toInt32) &&& 858993459)) (fun x0_v23 => bnd ((x0_v23 + ((x0_v23.toUInt32 >>> (Int32.toUInt32 4 &&& Int32.toUInt32 31)).toInt32)) &&& 252645135) (fun x0_v33 => bnd (x0_v33 + ((x0_v33.toUInt32 >>> (Int32.toUInt32 8 &&& Int32.toUInt32 31)).toInt32)) (fun x0_v40 => bnd (x0_v40 + ((x0_v40.toUInt32 >>> (Int32.toUInt32 16 &&& Int32.toUInt32 31)).toInt32)) (fun x0_v47 => some (x0_v47 &&& 63))))))
def f_L_bitCount (p0 : Int64) : Option (Int32) :=
  bnd (p0 - (((p0.toUInt64 >>> ((Int32.toInt64 1).toUInt64 &&& Int64.toUInt64 63)).toInt64) &&& 6148914691236517205)) (fun x0_v9 => bnd ((x0_v9 &&& 3689348814741910323) + (((x0_v9.toUInt64 >>> ((Int32.toInt64 2).toUInt64 &&& Int64.toUInt64 63)).toInt64) &&& 3689348814741910323)) (fun x0_v23 => bnd ((x0_v23 + ((x0_v23.toUInt64 >>> ((Int32.toInt64 4).toUInt64 &&& Int64.toUInt64 63)).toInt64)) &&& 1085102592571150095) (fun x0_v33 => bnd (x0_v33 + ((x0_v33.toUInt64 >>> ((Int32.toInt64 8).toUInt64 &&& Int64.toUInt64 63)).toInt64)) (fun x0_v40 => bnd (x0_v40 + ((x0_v40.toUInt64 >>> ((Int32.toInt64 16).toUInt64 &&& Int64.toUInt64 63)).toInt64)) (fun x0_v47 => bnd (x0_v47 + ((x0_v47.toUInt64 >>> ((Int32.toInt64 32).toUInt64 &&& Int64.toUInt64 63)).toInt64)) (fun x0_v54 => some ((Int64.toInt32 x0_v54) &&& 127)))))))
def f_Mth_floorMod (p0 : Int32) (p1 : Int32) : Option (Int32) :=
  gd (¬ p1 = 0) (bnd (p0 - p0 / p1 * p1) (fun x2_v3 => if 0 ≤ (p0 ^^^ p1) then (some (x2_v3))
  else (if x2_v3 = 0 then (some (x2_v3))
  else (some (x2_v3 + p1)))))
def f_Arr_fill_5 (p1 : Int32) (x2_5 : Int32) (b0_arr_5 : Nat → Int32) (k_5 : Int32 → (Nat → Int32) → Option ((Nat → Int32))) : Option ((Nat → Int32)) :=
  if 54 ≤ x2_5 then (some (b0_arr_5))
  else (gd (¬ (x2_5 < 0 ∨ 54 ≤ (x2_5).toNatClampNeg)) (k_5 (x2_5 + 1) (upd b0_arr_5 (x2_5).toNatClampNeg p1)))
def f_Arr_fill (b0_arr : Nat → Int32) (p1 : Int32) : Option ((Nat → Int32)) :=
  rl2 (f_Arr_fill_5 p1) FUEL 0 b0_arr
def f_Dev_count (count : Int32) : Option (Int32) :=
  some (count)
def f_Dev_on (on : Int32) : Option (Int32) :=
  some (on)
def f_Dev_has (count : Int32) (p0 : Int32) : Option (Int32) :=
  if p0 < 0 then (some (0))
  else (if count ≤ p0 then (some (0))
  else (if 6 ≤ p0 then (some (0))
  else (some (1))))
def f_Dev_hasRoom (count : Int32) : Option (Int32) :=
  if count < 0 then (some (0))
  else (if 6 ≤ count then (some (0))
  else (some (1)))
def f_Dev_clear (count : Int32) (on : Int32) : Option (Int32 × Int32) :=
  some (0, 0)
def f_Dev_copyFrom (houses : Nat → Int32) (codes : Nat → Int32) (tolerances : Nat → Int32) (count : Int32) (on : Int32) (b0_houses : Nat → Int32) (b0_codes : Nat → Int32) (b0_tolerances : Nat → Int32) (b0_count : Int32) (b0_on : Int32) : Option ((Nat → Int32) × (Nat → Int32) × (Nat → Int32) × Int32 × Int32) :=
  some (va_cpy b0_houses houses 0 0 6, va_cpy b0_codes codes 0 0 6, va_cpy b0_tolerances tolerances 0 0 6, b0_count, b0_on)
def f_Dev_add (houses : Nat → Int32) (codes : Nat → Int32) (tolerances : Nat → Int32) (count : Int32) (p0 : Int32) (p1 : Int32) (p2 : Int32) : Option (Int32 × (Nat → Int32) × (Nat → Int32) × (Nat → Int32) × Int32) :=
  cal (f_Dev_hasRoom count) (fun o_1 => if ¬ o_1 = 0 then (gd (¬ (count < 0 ∨ 6 ≤ (count).toNatClampNeg)) (some (count, upd houses (count).toNatClampNeg p0, upd codes (count).toNatClampNeg p1, upd tolerances (count).toNatClampNeg p2, count + 1)))
  else (some ((-9), houses, codes, tolerances, count)))
def f_Dev_houseOf (houses : Nat → Int32) (count : Int32) (p0 : Int32) : Option (Int32) :=
  cal (f_Dev_has count p0) (fun o_2 => if o_2 = 0 then (some ((-9)))
  else (gd (¬ (p0 < 0 ∨ 6 ≤ (p0).toNatClampNeg)) (some (houses (p0).toNatClampNeg))))
def f_Dev_codeOf (codes : Nat → Int32) (count : Int32) (p0 : Int32) : Option (Int32) :=
  cal (f_Dev_has count p0) (fun o_2 => if o_2 = 0 then (some ((-9)))
  else (gd (¬ (p0 < 0 ∨ 6 ≤ (p0).toNatClampNeg)) (some (codes (p0).toNatClampNeg))))
def f_Dev_toleranceOf (tolerances : Nat → Int32) (count : Int32) (p0 : Int32) : Option (Int32) :=
  cal (f_Dev_has count p0) (fun o_2 => if o_2 = 0 then (some ((-9)))
  else (gd (¬ (p0 < 0 ∨ 6 ≤ (p0).toNatClampNeg)) (some (tolerances (p0).toNatClampNeg))))
def f_Dev_isOn (count : Int32) (on : Int32) (p0 : Int32) : Option (Int32) :=
  cal (f_Dev_has count p0) (fun o_2 => if o_2 = 0 then (some (0))
  else (if ¬ ((on >>> (p0 &&& 31)) &&& 1) = 1 then (some (0))
  else (some (1))))
def f_Dev_accepts (houses : Nat → Int32) (codes : Nat → Int32) (tolerances : Nat → Int32) (count : Int32) (p0 : Int32) (p1 : Int32) (p2 : Int32) (p3 : Int32) : Option (Int32) :=
  cal (f_Dev_has count p0) (fun o_2 => if o_2 = 0 then (some (0))
  else (if p2 = ((-9)) then (some (0))
  else (gd (¬ (p0 < 0 ∨ 6 ≤ (p0).toNatClampNeg)) (if p3 < (iabs ((houses (p0).toNatClampNeg) - p1)) then (some (0))
  else (cal (f_I_bitCount ((codes (p0).toNatClampNeg) ^^^ p2)) (fun o_38 => if (tolerances (p0).toNatClampNeg) < o_38 then (some (0))
  else (some (1))))))))
def f_Dev_accepting_36 (k_6 : Int32 → Int32 → Option (Int32)) (x4_36 : Int32) (x5_36 : Int32) : Option (Int32) :=
  k_6 x4_36 (x5_36 + 1)
def f_Dev_accepting_6 (houses : Nat → Int32) (codes : Nat → Int32) (tolerances : Nat → Int32) (count : Int32) (p0 : Int32) (p1 : Int32) (p2 : Int32) (x4_6 : Int32) (x5_6 : Int32) (k_6 : Int32 → Int32 → Option (Int32)) : Option (Int32) :=
  if count ≤ x5_6 then (some (x4_6))
  else (cal (f_Dev_accepts houses codes tolerances count x5_6 p0 p1 p2) (fun o_21 => if o_21 = 0 then (f_Dev_accepting_36 k_6 x4_6 x5_6)
  else (bnd (x4_6 ||| (1 <<< (x5_6 &&& 31))) (fun x4_v34 => f_Dev_accepting_36 k_6 x4_v34 x5_6))))
def f_Dev_accepting (houses : Nat → Int32) (codes : Nat → Int32) (tolerances : Nat → Int32) (count : Int32) (p0 : Int32) (p1 : Int32) (p2 : Int32) : Option (Int32) :=
  rl2 (f_Dev_accepting_6 houses codes tolerances count p0 p1 p2) FUEL 0 0
def f_Dev_changeTolerance (tolerances : Nat → Int32) (count : Int32) (p0 : Int32) (p1 : Int32) : Option (Int32 × (Nat → Int32)) :=
  cal (f_Dev_toleranceOf tolerances count p0) (fun o_2 => cal (f_Dev_has count p0) (fun o_8 => if o_8 = 0 then (some (o_2, tolerances))
  else (gd (¬ (p0 < 0 ∨ 6 ≤ (p0).toNatClampNeg)) (some (o_2, upd tolerances (p0).toNatClampNeg p1)))))
def f_Dev_switchOver (on : Int32) (p0 : Int32) : Option (Int32) :=
  some (on ^^^ p0)
def f_Mem_count (count : Int32) : Option (Int32) :=
  some (count)
def f_Mem_forgetAll (count : Int32) : Option (Int32) :=
  some (0)
def f_Noi_next (p0 : Int64) : Option (Int64) :=
  some ((p0 * 6364136223846793005) + 1442695040888963407)
def f_Noi_wrongBit (p0 : Int64) (p1 : Int32) (p2 : Int32) : Option (Int32) :=
  bnd (Int64.toInt32 ((p0.toUInt64 >>> ((Int32.toInt64 33).toUInt64 &&& Int64.toUInt64 63)).toInt64)) (fun x4_v5 => if (p1 * p2) ≤ (x4_v5 - x4_v5 / 10 * 10) then (some ((-9)))
  else (some ((x4_v5 / 16) - (x4_v5 / 16) / 12 * 12)))
def f_Noi_changed (p0 : Int32) (p1 : Int32) : Option (Int32) :=
  if ¬ p1 = ((-9)) then (some (p0 ^^^ (1 <<< (p1 &&& 31))))
  else (some (p0))
def f_Noi_learned (p0 : Int32) (p1 : Int64) (p2 : Int32) (p3 : Int32) : Option (Int32) :=
  cal (f_Noi_wrongBit p1 p2 p3) (fun o_5 => cal (f_Noi_changed p0 o_5) (fun o_8 => some (o_8)))
def f_Txt_signAt (signs : Nat → Int32) (length : Int32) (p0 : Int32) : Option (Int32) :=
  if p0 < 0 then (some ((-9)))
  else (if length ≤ p0 then (some ((-9)))
  else (if 120 ≤ p0 then (some ((-9)))
  else (gd (¬ (p0 < 0 ∨ 120 ≤ (p0).toNatClampNeg)) (some (signs (p0).toNatClampNeg)))))
def f_TR_powerOfTen_4 (p0 : Int32) (x1_4 : Int64) (x3_4 : Int32) (k_4 : Int64 → Int32 → Option (Int64)) : Option (Int64) :=
  if p0 ≤ x3_4 then (some (x1_4))
  else (bnd (x1_4 * 10) (fun x1_v14 => k_4 x1_v14 (x3_4 + 1)))
def f_TR_powerOfTen (p0 : Int32) : Option (Int64) :=
  rl2 (f_TR_powerOfTen_4 p0) FUEL 1 0
def f_Rdr_readNumber_8 (b0_signs : Nat → Int32) (b0_length : Int32) (p2 : Int32) (p3 : Int32) (x5_8 : Int64) (x7_8 : Int32) (place_8 : Int32) (k_8 : Int64 → Int32 → Int32 → Option (Int32 × Int32)) : Option (Int32 × Int32) :=
  if x7_8 < 0 then (some (Int64.toInt32 x5_8, place_8))
  else (cal (f_Txt_signAt b0_signs b0_length place_8) (fun o_18 => if o_18 < 48 then (some ((-9), place_8))
  else (if o_18 ≤ 57 then (bnd ((10 * x5_8) + (Int32.toInt64 (o_18 - 48))) (fun x5_v53 => cal (f_TR_powerOfTen x7_8) (fun o_59 => bnd (x5_v53 * o_59) (fun x9_v63 => cal (f_TR_powerOfTen x7_8) (fun o_69 => bnd ((x9_v63 + o_69) - 1) (fun x11_v75 => if 0 < (lg_cmp x9_v63 (Int32.toInt64 p3)) then (some ((-9), place_8))
  else (if 0 ≤ (lg_cmp x11_v75 (Int32.toInt64 p2)) then (k_8 x5_v53 (x7_8 + (-1)) (place_8 + 1))
  else (some ((-9), place_8)))))))))
  else (some ((-9), place_8)))))
def f_Rdr_readNumber (place : Int32) (b0_signs : Nat → Int32) (b0_length : Int32) (p1 : Int32) (p2 : Int32) (p3 : Int32) : Option (Int32 × Int32) :=
  bnd (p1 - 1) (fun x7_v6 => rl3 (f_Rdr_readNumber_8 b0_signs b0_length p2 p3) FUEL 0 x7_v6 place)
def f_Rec_clear (count : Int32) : Option (Int32) :=
  some (0)
def f_Str_clear (records_count : Int32) (devices_count : Int32) (devices_on : Int32) (recordOfKey : Nat → Int32) (houses : Int32) (noise : Int32) (reach : Int32) (x : Int64) (p0 : Int32) : Option (Int32 × Int32 × Int32 × (Nat → Int32) × Int32 × Int32 × Int32 × Int64) :=
  cal (f_Rec_clear records_count) (fun o_4 => cal (f_Dev_clear devices_count devices_on) (fun o_11 => cal (f_Arr_fill recordOfKey ((-9))) (fun o_20 => some (o_4, o_11.1, o_11.2, o_20, p0, 1, 2, 1))))
def f_Rdr_readHead (place : Int32) (b0_signs : Nat → Int32) (b0_length : Int32) (b1_records_count : Int32) (b1_devices_count : Int32) (b1_devices_on : Int32) (b1_recordOfKey : Nat → Int32) (b1_houses : Int32) (b1_noise : Int32) (b1_reach : Int32) (b1_x : Int64) : Option (Int32 × Int32 × Int32 × Int32 × Int32 × (Nat → Int32) × Int32 × Int32 × Int32 × Int64) :=
  cal (f_Txt_signAt b0_signs b0_length place) (fun o_5 => if o_5 = 82 then (cal (f_Rdr_readNumber (place + 1) b0_signs b0_length 1 2 9) (fun o_31 => if ¬ o_31.1 = ((-9)) then (cal (f_Str_clear b1_records_count b1_devices_count b1_devices_on b1_recordOfKey b1_houses b1_noise b1_reach b1_x o_31.1) (fun o_45 => some (1, o_31.2, o_45.1, o_45.2.1, o_45.2.2.1, o_45.2.2.2.1, o_45.2.2.2.2.1, o_45.2.2.2.2.2.1, o_45.2.2.2.2.2.2.1, o_45.2.2.2.2.2.2.2)))
  else (some (0, o_31.2, b1_records_count, b1_devices_count, b1_devices_on, b1_recordOfKey, b1_houses, b1_noise, b1_reach, b1_x))))
  else (some (0, place, b1_records_count, b1_devices_count, b1_devices_on, b1_recordOfKey, b1_houses, b1_noise, b1_reach, b1_x)))
def f_Txt_length (length : Int32) : Option (Int32) :=
  some (length)
def f_Str_changeSetting_15 (noise : Int32) (reach : Int32) (p0 : Int32) (p1 : Int32) (s0_15 : Int32) : Option (Int32 × Int32 × Int32) :=
  if ¬ p0 = 0 then (some (s0_15, noise, p1))
  else (some (s0_15, p1, reach))
def f_Str_changeSetting (noise : Int32) (reach : Int32) (p0 : Int32) (p1 : Int32) : Option (Int32 × Int32 × Int32) :=
  if ¬ p0 = 0 then (f_Str_changeSetting_15 noise reach p0 p1 reach)
  else (f_Str_changeSetting_15 noise reach p0 p1 noise)
def f_Rdr_readSetting (place : Int32) (b0_signs : Nat → Int32) (b0_length : Int32) (b1_noise : Int32) (b1_reach : Int32) (p2 : Int32) (p3 : Int32) : Option (Int32 × Int32 × Int32 × Int32) :=
  cal (f_Rdr_readNumber (place + 1) b0_signs b0_length 1 0 p3) (fun o_16 => if ¬ o_16.1 = ((-9)) then (cal (f_Str_changeSetting b1_noise b1_reach p2 o_16.1) (fun o_34 => some (1, o_16.2, o_34.2.1, o_34.2.2)))
  else (some (0, o_16.2, b1_noise, b1_reach)))
def f_Rec_count (count : Int32) : Option (Int32) :=
  some (count)
def f_Str_houses (houses : Int32) : Option (Int32) :=
  some (houses)
def f_Rec_hasRoom (count : Int32) : Option (Int32) :=
  if count < 0 then (some (0))
  else (if 40 ≤ count then (some (0))
  else (some (1)))
def f_Rec_add (codes : Nat → Int32) (houses : Nat → Int32) (keys : Nat → Int32) (parents : Nat → Int32) (wrongBits : Nat → Int32) (count : Int32) (p0 : Int32) (p1 : Int32) (p2 : Int32) (p3 : Int32) (p4 : Int32) : Option (Int32 × (Nat → Int32) × (Nat → Int32) × (Nat → Int32) × (Nat → Int32) × (Nat → Int32) × Int32) :=
  cal (f_Rec_hasRoom count) (fun o_1 => if ¬ o_1 = 0 then (gd (¬ (count < 0 ∨ 40 ≤ (count).toNatClampNeg)) (some (count, upd codes (count).toNatClampNeg p0, upd houses (count).toNatClampNeg p1, upd keys (count).toNatClampNeg p2, upd parents (count).toNatClampNeg p3, upd wrongBits (count).toNatClampNeg p4, count + 1)))
  else (some ((-9), codes, houses, keys, parents, wrongBits, count)))
def f_Str_hasKey (houses : Int32) (p0 : Int32) (p1 : Int32) : Option (Int32) :=
  if p0 < 0 then (some (0))
  else (if houses ≤ p0 then (some (0))
  else (if 9 ≤ p0 then (some (0))
  else (if p1 < 0 then (some (0))
  else (if 6 ≤ p1 then (some (0))
  else (some (1))))))
def f_Str_giveRecord (recordOfKey : Nat → Int32) (houses : Int32) (p0 : Int32) (p1 : Int32) (p2 : Int32) : Option ((Nat → Int32)) :=
  cal (f_Str_hasKey houses p0 p1) (fun o_3 => if o_3 = 0 then (some (recordOfKey))
  else (gd (¬ (((p0 * 6) + p1) < 0 ∨ 54 ≤ ((p0 * 6) + p1).toNatClampNeg)) (some (upd recordOfKey ((p0 * 6) + p1).toNatClampNeg p2))))
def f_Str_enterCode (records_codes : Nat → Int32) (records_houses : Nat → Int32) (records_keys : Nat → Int32) (records_parents : Nat → Int32) (records_wrongBits : Nat → Int32) (records_count : Int32) (recordOfKey : Nat → Int32) (houses : Int32) (p0 : Int32) (p1 : Int32) (p2 : Int32) : Option (Int32 × (Nat → Int32) × (Nat → Int32) × (Nat → Int32) × (Nat → Int32) × (Nat → Int32) × Int32 × (Nat → Int32)) :=
  cal (f_Rec_add records_codes records_houses records_keys records_parents records_wrongBits records_count p2 p0 p1 ((-9)) ((-9))) (fun o_11 => cal (f_Str_giveRecord recordOfKey houses p0 p1 o_11.1) (fun o_21 => some (o_11.1, o_11.2.1, o_11.2.2.1, o_11.2.2.2.1, o_11.2.2.2.2.1, o_11.2.2.2.2.2.1, o_11.2.2.2.2.2.2, o_21)))
def f_Rdr_readCode_67 (b1_records_codes : Nat → Int32) (b1_records_houses : Nat → Int32) (b1_records_keys : Nat → Int32) (b1_records_parents : Nat → Int32) (b1_records_wrongBits : Nat → Int32) (b1_records_count : Int32) (b1_recordOfKey : Nat → Int32) (b1_houses : Int32) (o_20 : Int32 × Int32) (x4_67 : Int32) (s0_67 : Int32) (place_67 : Int32) : Option (Int32 × Int32 × (Nat → Int32) × (Nat → Int32) × (Nat → Int32) × (Nat → Int32) × (Nat → Int32) × Int32 × (Nat → Int32)) :=
  if ¬ s0_67 = ((-9)) then (cal (f_Str_enterCode b1_records_codes b1_records_houses b1_records_keys b1_records_parents b1_records_wrongBits b1_records_count b1_recordOfKey b1_houses o_20.1 x4_67 s0_67) (fun o_84 => some (1, place_67, o_84.2.1, o_84.2.2.1, o_84.2.2.2.1, o_84.2.2.2.2.1, o_84.2.2.2.2.2.1, o_84.2.2.2.2.2.2.1, o_84.2.2.2.2.2.2.2)))
  else (some (0, place_67, b1_records_codes, b1_records_houses, b1_records_keys, b1_records_parents, b1_records_wrongBits, b1_records_count, b1_recordOfKey))
def f_Rdr_readCode_43 (b0_signs : Nat → Int32) (b0_length : Int32) (b1_records_codes : Nat → Int32) (b1_records_houses : Nat → Int32) (b1_records_keys : Nat → Int32) (b1_records_parents : Nat → Int32) (b1_records_wrongBits : Nat → Int32) (b1_records_count : Int32) (b1_recordOfKey : Nat → Int32) (b1_houses : Int32) (o_20 : Int32 × Int32) (s0_43 : Int32) (place_43 : Int32) : Option (Int32 × Int32 × (Nat → Int32) × (Nat → Int32) × (Nat → Int32) × (Nat → Int32) × (Nat → Int32) × Int32 × (Nat → Int32)) :=
  if ¬ s0_43 = ((-9)) then (cal (f_Rdr_readNumber place_43 b0_signs b0_length 4 0 4095) (fun o_64 => f_Rdr_readCode_67 b1_records_codes b1_records_houses b1_records_keys b1_records_parents b1_records_wrongBits b1_records_count b1_recordOfKey b1_houses o_20 s0_43 o_64.1 o_64.2))
  else (f_Rdr_readCode_67 b1_records_codes b1_records_houses b1_records_keys b1_records_parents b1_records_wrongBits b1_records_count b1_recordOfKey b1_houses o_20 s0_43 ((-9)) place_43)
def f_Rdr_readCode (place : Int32) (b0_signs : Nat → Int32) (b0_length : Int32) (b1_records_codes : Nat → Int32) (b1_records_houses : Nat → Int32) (b1_records_keys : Nat → Int32) (b1_records_parents : Nat → Int32) (b1_records_wrongBits : Nat → Int32) (b1_records_count : Int32) (b1_recordOfKey : Nat → Int32) (b1_houses : Int32) : Option (Int32 × Int32 × (Nat → Int32) × (Nat → Int32) × (Nat → Int32) × (Nat → Int32) × (Nat → Int32) × Int32 × (Nat → Int32)) :=
  cal (f_Str_houses b1_houses) (fun o_15 => cal (f_Rdr_readNumber (place + 1) b0_signs b0_length 1 0 (o_15 - 1)) (fun o_20 => if ¬ o_20.1 = ((-9)) then (cal (f_Rdr_readNumber o_20.2 b0_signs b0_length 1 0 5) (fun o_40 => f_Rdr_readCode_43 b0_signs b0_length b1_records_codes b1_records_houses b1_records_keys b1_records_parents b1_records_wrongBits b1_records_count b1_recordOfKey b1_houses o_20 o_40.1 o_40.2))
  else (f_Rdr_readCode_43 b0_signs b0_length b1_records_codes b1_records_houses b1_records_keys b1_records_parents b1_records_wrongBits b1_records_count b1_recordOfKey b1_houses o_20 ((-9)) o_20.2)))
def f_Rdr_readDevice_67 (b1_devices_houses : Nat → Int32) (b1_devices_codes : Nat → Int32) (b1_devices_tolerances : Nat → Int32) (b1_devices_count : Int32) (o_20 : Int32 × Int32) (x4_67 : Int32) (s0_67 : Int32) (place_67 : Int32) : Option (Int32 × Int32 × (Nat → Int32) × (Nat → Int32) × (Nat → Int32) × Int32) :=
  if ¬ s0_67 = ((-9)) then (cal (f_Dev_add b1_devices_houses b1_devices_codes b1_devices_tolerances b1_devices_count o_20.1 x4_67 s0_67) (fun o_87 => some (1, place_67, o_87.2.1, o_87.2.2.1, o_87.2.2.2.1, o_87.2.2.2.2)))
  else (some (0, place_67, b1_devices_houses, b1_devices_codes, b1_devices_tolerances, b1_devices_count))
def f_Rdr_readDevice_45 (b0_signs : Nat → Int32) (b0_length : Int32) (b1_devices_houses : Nat → Int32) (b1_devices_codes : Nat → Int32) (b1_devices_tolerances : Nat → Int32) (b1_devices_count : Int32) (o_20 : Int32 × Int32) (s0_45 : Int32) (place_45 : Int32) : Option (Int32 × Int32 × (Nat → Int32) × (Nat → Int32) × (Nat → Int32) × Int32) :=
  if ¬ s0_45 = ((-9)) then (cal (f_Rdr_readNumber place_45 b0_signs b0_length 1 0 3) (fun o_64 => f_Rdr_readDevice_67 b1_devices_houses b1_devices_codes b1_devices_tolerances b1_devices_count o_20 s0_45 o_64.1 o_64.2))
  else (f_Rdr_readDevice_67 b1_devices_houses b1_devices_codes b1_devices_tolerances b1_devices_count o_20 s0_45 ((-9)) place_45)
def f_Rdr_readDevice (place : Int32) (b0_signs : Nat → Int32) (b0_length : Int32) (b1_devices_houses : Nat → Int32) (b1_devices_codes : Nat → Int32) (b1_devices_tolerances : Nat → Int32) (b1_devices_count : Int32) (b1_houses : Int32) : Option (Int32 × Int32 × (Nat → Int32) × (Nat → Int32) × (Nat → Int32) × Int32) :=
  cal (f_Str_houses b1_houses) (fun o_15 => cal (f_Rdr_readNumber (place + 1) b0_signs b0_length 1 0 (o_15 - 1)) (fun o_20 => if ¬ o_20.1 = ((-9)) then (cal (f_Rdr_readNumber o_20.2 b0_signs b0_length 4 0 4095) (fun o_42 => f_Rdr_readDevice_45 b0_signs b0_length b1_devices_houses b1_devices_codes b1_devices_tolerances b1_devices_count o_20 o_42.1 o_42.2))
  else (f_Rdr_readDevice_45 b0_signs b0_length b1_devices_houses b1_devices_codes b1_devices_tolerances b1_devices_count o_20 ((-9)) o_20.2)))
def f_Rdr_readPart (place : Int32) (b0_signs : Nat → Int32) (b0_length : Int32) (b1_records_codes : Nat → Int32) (b1_records_houses : Nat → Int32) (b1_records_keys : Nat → Int32) (b1_records_parents : Nat → Int32) (b1_records_wrongBits : Nat → Int32) (b1_records_count : Int32) (b1_devices_houses : Nat → Int32) (b1_devices_codes : Nat → Int32) (b1_devices_tolerances : Nat → Int32) (b1_devices_count : Int32) (b1_recordOfKey : Nat → Int32) (b1_houses : Int32) (b1_noise : Int32) (b1_reach : Int32) : Option (Int32 × Int32 × (Nat → Int32) × (Nat → Int32) × (Nat → Int32) × (Nat → Int32) × (Nat → Int32) × Int32 × (Nat → Int32) × (Nat → Int32) × (Nat → Int32) × Int32 × (Nat → Int32) × Int32 × Int32) :=
  cal (f_Txt_signAt b0_signs b0_length place) (fun o_5 => if o_5 = 100 then (cal (f_Dev_hasRoom b1_devices_count) (fun o_83 => if o_83 = 0 then (some (0, place, b1_records_codes, b1_records_houses, b1_records_keys, b1_records_parents, b1_records_wrongBits, b1_records_count, b1_devices_houses, b1_devices_codes, b1_devices_tolerances, b1_devices_count, b1_recordOfKey, b1_noise, b1_reach))
  else (cal (f_Rdr_readDevice place b0_signs b0_length b1_devices_houses b1_devices_codes b1_devices_tolerances b1_devices_count b1_houses) (fun o_92 => if o_92.1 = 0 then (some (0, o_92.2.1, b1_records_codes, b1_records_houses, b1_records_keys, b1_records_parents, b1_records_wrongBits, b1_records_count, o_92.2.2.1, o_92.2.2.2.1, o_92.2.2.2.2.1, o_92.2.2.2.2.2, b1_recordOfKey, b1_noise, b1_reach))
  else (some (1, o_92.2.1, b1_records_codes, b1_records_houses, b1_records_keys, b1_records_parents, b1_records_wrongBits, b1_records_count, o_92.2.2.1, o_92.2.2.2.1, o_92.2.2.2.2.1, o_92.2.2.2.2.2, b1_recordOfKey, b1_noise, b1_reach))))))
  else (if o_5 = 107 then (cal (f_Rec_count b1_records_count) (fun o_56 => if 12 ≤ o_56 then (some (0, place, b1_records_codes, b1_records_houses, b1_records_keys, b1_records_parents, b1_records_wrongBits, b1_records_count, b1_devices_houses, b1_devices_codes, b1_devices_tolerances, b1_devices_count, b1_recordOfKey, b1_noise, b1_reach))
  else (cal (f_Rdr_readCode place b0_signs b0_length b1_records_codes b1_records_houses b1_records_keys b1_records_parents b1_records_wrongBits b1_records_count b1_recordOfKey b1_houses) (fun o_67 => if o_67.1 = 0 then (some (0, o_67.2.1, o_67.2.2.1, o_67.2.2.2.1, o_67.2.2.2.2.1, o_67.2.2.2.2.2.1, o_67.2.2.2.2.2.2.1, o_67.2.2.2.2.2.2.2.1, b1_devices_houses, b1_devices_codes, b1_devices_tolerances, b1_devices_count, o_67.2.2.2.2.2.2.2.2, b1_noise, b1_reach))
  else (some (1, o_67.2.1, o_67.2.2.1, o_67.2.2.2.1, o_67.2.2.2.2.1, o_67.2.2.2.2.2.1, o_67.2.2.2.2.2.2.1, o_67.2.2.2.2.2.2.2.1, b1_devices_houses, b1_devices_codes, b1_devices_tolerances, b1_devices_count, o_67.2.2.2.2.2.2.2.2, b1_noise, b1_reach))))))
  else (if o_5 = 110 then (cal (f_Rdr_readSetting place b0_signs b0_length b1_noise b1_reach 0 3) (fun o_109 => gd (o_109.1 = 0 ∨ o_109.1 = 1) (some (o_109.1, o_109.2.1, b1_records_codes, b1_records_houses, b1_records_keys, b1_records_parents, b1_records_wrongBits, b1_records_count, b1_devices_houses, b1_devices_codes, b1_devices_tolerances, b1_devices_count, b1_recordOfKey, o_109.2.2.1, o_109.2.2.2))))
  else (if o_5 = 115 then (cal (f_Rdr_readSetting place b0_signs b0_length b1_noise b1_reach 1 8) (fun o_119 => gd (o_119.1 = 0 ∨ o_119.1 = 1) (some (o_119.1, o_119.2.1, b1_records_codes, b1_records_houses, b1_records_keys, b1_records_parents, b1_records_wrongBits, b1_records_count, b1_devices_houses, b1_devices_codes, b1_devices_tolerances, b1_devices_count, b1_recordOfKey, o_119.2.2.1, o_119.2.2.2))))
  else (some (0, place, b1_records_codes, b1_records_houses, b1_records_keys, b1_records_parents, b1_records_wrongBits, b1_records_count, b1_devices_houses, b1_devices_codes, b1_devices_tolerances, b1_devices_count, b1_recordOfKey, b1_noise, b1_reach))))))
def f_Rdr_read_50 (o_8 : Int32 × Int32 × Int32 × Int32 × Int32 × (Nat → Int32) × Int32 × Int32 × Int32 × Int64) (x3_50 : Int32) (place_50 : Int32) (b1_records_codes_50 : Nat → Int32) (b1_records_houses_50 : Nat → Int32) (b1_records_keys_50 : Nat → Int32) (b1_records_parents_50 : Nat → Int32) (b1_records_wrongBits_50 : Nat → Int32) (b1_records_count_50 : Int32) (b1_devices_houses_50 : Nat → Int32) (b1_devices_codes_50 : Nat → Int32) (b1_devices_tolerances_50 : Nat → Int32) (b1_devices_count_50 : Int32) (b1_recordOfKey_50 : Nat → Int32) (b1_noise_50 : Int32) (b1_reach_50 : Int32) : Option (Int32 × Int32 × (Nat → Int32) × (Nat → Int32) × (Nat → Int32) × (Nat → Int32) × (Nat → Int32) × Int32 × (Nat → Int32) × (Nat → Int32) × (Nat → Int32) × Int32 × Int32 × (Nat → Int32) × Int32 × Int32 × Int32 × Int64) :=
  if x3_50 = 0 then (some (place_50, place_50, b1_records_codes_50, b1_records_houses_50, b1_records_keys_50, b1_records_parents_50, b1_records_wrongBits_50, b1_records_count_50, b1_devices_houses_50, b1_devices_codes_50, b1_devices_tolerances_50, b1_devices_count_50, o_8.2.2.2.2.1, b1_recordOfKey_50, o_8.2.2.2.2.2.2.1, b1_noise_50, b1_reach_50, o_8.2.2.2.2.2.2.2.2.2))
  else (some ((-9), place_50, b1_records_codes_50, b1_records_houses_50, b1_records_keys_50, b1_records_parents_50, b1_records_wrongBits_50, b1_records_count_50, b1_devices_houses_50, b1_devices_codes_50, b1_devices_tolerances_50, b1_devices_count_50, o_8.2.2.2.2.1, b1_recordOfKey_50, o_8.2.2.2.2.2.2.1, b1_noise_50, b1_reach_50, o_8.2.2.2.2.2.2.2.2.2))
def f_Rdr_read_15 (b0_signs : Nat → Int32) (b0_length : Int32) (o_8 : Int32 × Int32 × Int32 × Int32 × Int32 × (Nat → Int32) × Int32 × Int32 × Int32 × Int64) (x3_15 : Int32) (x4_15 : Int32) (place_15 : Int32) (b1_records_codes_15 : Nat → Int32) (b1_records_houses_15 : Nat → Int32) (b1_records_keys_15 : Nat → Int32) (b1_records_parents_15 : Nat → Int32) (b1_records_wrongBits_15 : Nat → Int32) (b1_records_count_15 : Int32) (b1_devices_houses_15 : Nat → Int32) (b1_devices_codes_15 : Nat → Int32) (b1_devices_tolerances_15 : Nat → Int32) (b1_devices_count_15 : Int32) (b1_recordOfKey_15 : Nat → Int32) (b1_noise_15 : Int32) (b1_reach_15 : Int32) (k_15 : Int32 → Int32 → Int32 → (Nat → Int32) → (Nat → Int32) → (Nat → Int32) → (Nat → Int32) → (Nat → Int32) → Int32 → (Nat → Int32) → (Nat → Int32) → (Nat → Int32) → Int32 → (Nat → Int32) → Int32 → Int32 → Option (Int32 × Int32 × (Nat → Int32) × (Nat → Int32) × (Nat → Int32) × (Nat → Int32) × (Nat → Int32) × Int32 × (Nat → Int32) × (Nat → Int32) × (Nat → Int32) × Int32 × Int32 × (Nat → Int32) × Int32 × Int32 × Int32 × Int64)) : Option (Int32 × Int32 × (Nat → Int32) × (Nat → Int32) × (Nat → Int32) × (Nat → Int32) × (Nat → Int32) × Int32 × (Nat → Int32) × (Nat → Int32) × (Nat → Int32) × Int32 × Int32 × (Nat → Int32) × Int32 × Int32 × Int32 × Int64) :=
  if x3_15 = 0 then (f_Rdr_read_50 o_8 x3_15 place_15 b1_records_codes_15 b1_records_houses_15 b1_records_keys_15 b1_records_parents_15 b1_records_wrongBits_15 b1_records_count_15 b1_devices_houses_15 b1_devices_codes_15 b1_devices_tolerances_15 b1_devices_count_15 b1_recordOfKey_15 b1_noise_15 b1_reach_15)
  else (if 120 ≤ x4_15 then (f_Rdr_read_50 o_8 x3_15 place_15 b1_records_codes_15 b1_records_houses_15 b1_records_keys_15 b1_records_parents_15 b1_records_wrongBits_15 b1_records_count_15 b1_devices_houses_15 b1_devices_codes_15 b1_devices_tolerances_15 b1_devices_count_15 b1_recordOfKey_15 b1_noise_15 b1_reach_15)
  else (cal (f_Txt_length b0_length) (fun o_31 => if o_31 ≤ place_15 then (f_Rdr_read_50 o_8 x3_15 place_15 b1_records_codes_15 b1_records_houses_15 b1_records_keys_15 b1_records_parents_15 b1_records_wrongBits_15 b1_records_count_15 b1_devices_houses_15 b1_devices_codes_15 b1_devices_tolerances_15 b1_devices_count_15 b1_recordOfKey_15 b1_noise_15 b1_reach_15)
  else (cal (f_Rdr_readPart place_15 b0_signs b0_length b1_records_codes_15 b1_records_houses_15 b1_records_keys_15 b1_records_parents_15 b1_records_wrongBits_15 b1_records_count_15 b1_devices_houses_15 b1_devices_codes_15 b1_devices_tolerances_15 b1_devices_count_15 b1_recordOfKey_15 o_8.2.2.2.2.2.2.1 b1_noise_15 b1_reach_15) (fun o_40 => k_15 o_40.1 (x4_15 + 1) o_40.2.1 o_40.2.2.1 o_40.2.2.2.1 o_40.2.2.2.2.1 o_40.2.2.2.2.2.1 o_40.2.2.2.2.2.2.1 o_40.2.2.2.2.2.2.2.1 o_40.2.2.2.2.2.2.2.2.1 o_40.2.2.2.2.2.2.2.2.2.1 o_40.2.2.2.2.2.2.2.2.2.2.1 o_40.2.2.2.2.2.2.2.2.2.2.2.1 o_40.2.2.2.2.2.2.2.2.2.2.2.2.1 o_40.2.2.2.2.2.2.2.2.2.2.2.2.2.1 o_40.2.2.2.2.2.2.2.2.2.2.2.2.2.2)))))
def f_Rdr_read (place : Int32) (b0_signs : Nat → Int32) (b0_length : Int32) (b1_records_codes : Nat → Int32) (b1_records_houses : Nat → Int32) (b1_records_keys : Nat → Int32) (b1_records_parents : Nat → Int32) (b1_records_wrongBits : Nat → Int32) (b1_records_count : Int32) (b1_devices_houses : Nat → Int32) (b1_devices_codes : Nat → Int32) (b1_devices_tolerances : Nat → Int32) (b1_devices_count : Int32) (b1_devices_on : Int32) (b1_recordOfKey : Nat → Int32) (b1_houses : Int32) (b1_noise : Int32) (b1_reach : Int32) (b1_x : Int64) : Option (Int32 × Int32 × (Nat → Int32) × (Nat → Int32) × (Nat → Int32) × (Nat → Int32) × (Nat → Int32) × Int32 × (Nat → Int32) × (Nat → Int32) × (Nat → Int32) × Int32 × Int32 × (Nat → Int32) × Int32 × Int32 × Int32 × Int64) :=
  cal (f_Rdr_readHead 0 b0_signs b0_length b1_records_count b1_devices_count b1_devices_on b1_recordOfKey b1_houses b1_noise b1_reach b1_x) (fun o_8 => rl16 (f_Rdr_read_15 b0_signs b0_length o_8) FUEL o_8.1 0 o_8.2.1 b1_records_codes b1_records_houses b1_records_keys b1_records_parents b1_records_wrongBits o_8.2.2.1 b1_devices_houses b1_devices_codes b1_devices_tolerances o_8.2.2.2.1 o_8.2.2.2.2.2.1 o_8.2.2.2.2.2.2.2.1 o_8.2.2.2.2.2.2.2.2.1)
def f_Rec_has (count : Int32) (p0 : Int32) : Option (Int32) :=
  if p0 < 0 then (some (0))
  else (if count ≤ p0 then (some (0))
  else (if 40 ≤ p0 then (some (0))
  else (some (1))))
def f_Rec_copyFrom (codes : Nat → Int32) (houses : Nat → Int32) (keys : Nat → Int32) (parents : Nat → Int32) (wrongBits : Nat → Int32) (count : Int32) (b0_codes : Nat → Int32) (b0_houses : Nat → Int32) (b0_keys : Nat → Int32) (b0_parents : Nat → Int32) (b0_wrongBits : Nat → Int32) (b0_count : Int32) : Option ((Nat → Int32) × (Nat → Int32) × (Nat → Int32) × (Nat → Int32) × (Nat → Int32) × Int32) :=
  some (va_cpy b0_codes codes 0 0 40, va_cpy b0_houses houses 0 0 40, va_cpy b0_keys keys 0 0 40, va_cpy b0_parents parents 0 0 40, va_cpy b0_wrongBits wrongBits 0 0 40, b0_count)
def f_Rec_codeOf (codes : Nat → Int32) (count : Int32) (p0 : Int32) : Option (Int32) :=
  cal (f_Rec_has count p0) (fun o_2 => if o_2 = 0 then (some ((-9)))
  else (gd (¬ (p0 < 0 ∨ 40 ≤ (p0).toNatClampNeg)) (some (codes (p0).toNatClampNeg))))
def f_Rec_houseOf (houses : Nat → Int32) (count : Int32) (p0 : Int32) : Option (Int32) :=
  cal (f_Rec_has count p0) (fun o_2 => if o_2 = 0 then (some ((-9)))
  else (gd (¬ (p0 < 0 ∨ 40 ≤ (p0).toNatClampNeg)) (some (houses (p0).toNatClampNeg))))
def f_Rec_keyOf (keys : Nat → Int32) (count : Int32) (p0 : Int32) : Option (Int32) :=
  cal (f_Rec_has count p0) (fun o_2 => if o_2 = 0 then (some ((-9)))
  else (gd (¬ (p0 < 0 ∨ 40 ≤ (p0).toNatClampNeg)) (some (keys (p0).toNatClampNeg))))
def f_Rec_parentOf (parents : Nat → Int32) (count : Int32) (p0 : Int32) : Option (Int32) :=
  cal (f_Rec_has count p0) (fun o_2 => if o_2 = 0 then (some ((-9)))
  else (gd (¬ (p0 < 0 ∨ 40 ≤ (p0).toNatClampNeg)) (some (parents (p0).toNatClampNeg))))
def f_Rec_wrongBitOf (wrongBits : Nat → Int32) (count : Int32) (p0 : Int32) : Option (Int32) :=
  cal (f_Rec_has count p0) (fun o_2 => if o_2 = 0 then (some ((-9)))
  else (gd (¬ (p0 < 0 ∨ 40 ≤ (p0).toNatClampNeg)) (some (wrongBits (p0).toNatClampNeg))))
def f_Rec_ancestorOf_13 (parents : Nat → Int32) (count : Int32) (p1 : Int32) (x4_13 : Int32) (x5_13 : Int32) (k_13 : Int32 → Int32 → Option (Int32)) : Option (Int32) :=
  if (imin p1 40) ≤ x5_13 then (some (x4_13))
  else (if x4_13 = ((-9)) then (some (x4_13))
  else (cal (f_Rec_parentOf parents count x4_13) (fun o_29 => k_13 o_29 (x5_13 + 1))))
def f_Rec_ancestorOf (parents : Nat → Int32) (count : Int32) (p0 : Int32) (p1 : Int32) : Option (Int32) :=
  rl2 (f_Rec_ancestorOf_13 parents count p1) FUEL p0 0
def f_Rec_generationOf_11 (parents : Nat → Int32) (count : Int32) (x2_11 : Int32) (x3_11 : Int32) (x4_11 : Int32) (k_11 : Int32 → Int32 → Int32 → Option (Int32)) : Option (Int32) :=
  if 40 ≤ x4_11 then (some (x2_11))
  else (if x3_11 = ((-9)) then (some (x2_11))
  else (cal (f_Rec_parentOf parents count x3_11) (fun o_29 => k_11 (x2_11 + 1) o_29 (x4_11 + 1))))
def f_Rec_generationOf (parents : Nat → Int32) (count : Int32) (p0 : Int32) : Option (Int32) :=
  cal (f_Rec_parentOf parents count p0) (fun o_4 => rl3 (f_Rec_generationOf_11 parents count) FUEL 0 o_4 0)
def f_Rec_rootOf (parents : Nat → Int32) (count : Int32) (p0 : Int32) : Option (Int32) :=
  cal (f_Rec_generationOf parents count p0) (fun o_4 => cal (f_Rec_ancestorOf parents count p0 o_4) (fun o_7 => some (o_7)))
def f_Rec_wrongBitsInChain_33 (parents : Nat → Int32) (count : Int32) (k_7 : Int32 → Int32 → Int32 → Option (Int32)) (x2_33 : Int32) (x3_33 : Int32) (x4_33 : Int32) : Option (Int32) :=
  cal (f_Rec_parentOf parents count x3_33) (fun o_35 => k_7 x2_33 o_35 (x4_33 + 1))
def f_Rec_wrongBitsInChain_7 (parents : Nat → Int32) (wrongBits : Nat → Int32) (count : Int32) (x2_7 : Int32) (x3_7 : Int32) (x4_7 : Int32) (k_7 : Int32 → Int32 → Int32 → Option (Int32)) : Option (Int32) :=
  if 40 ≤ x4_7 then (some (x2_7))
  else (if x3_7 = ((-9)) then (some (x2_7))
  else (cal (f_Rec_wrongBitOf wrongBits count x3_7) (fun o_22 => if o_22 = ((-9)) then (f_Rec_wrongBitsInChain_33 parents count k_7 x2_7 x3_7 x4_7)
  else (f_Rec_wrongBitsInChain_33 parents count k_7 (x2_7 + 1) x3_7 x4_7))))
def f_Rec_wrongBitsInChain (parents : Nat → Int32) (wrongBits : Nat → Int32) (count : Int32) (p0 : Int32) : Option (Int32) :=
  rl3 (f_Rec_wrongBitsInChain_7 parents wrongBits count) FUEL 0 p0 0
def f_Rec_firstWrongInChain_33 (parents : Nat → Int32) (count : Int32) (k_8 : Int32 → Int32 → Int32 → Option (Int32)) (x2_33 : Int32) (x3_33 : Int32) (x4_33 : Int32) : Option (Int32) :=
  cal (f_Rec_parentOf parents count x3_33) (fun o_35 => k_8 x2_33 o_35 (x4_33 + 1))
def f_Rec_firstWrongInChain_8 (parents : Nat → Int32) (wrongBits : Nat → Int32) (count : Int32) (x2_8 : Int32) (x3_8 : Int32) (x4_8 : Int32) (k_8 : Int32 → Int32 → Int32 → Option (Int32)) : Option (Int32) :=
  if 40 ≤ x4_8 then (some (x2_8))
  else (if x3_8 = ((-9)) then (some (x2_8))
  else (cal (f_Rec_wrongBitOf wrongBits count x3_8) (fun o_23 => if o_23 = ((-9)) then (f_Rec_firstWrongInChain_33 parents count k_8 x2_8 x3_8 x4_8)
  else (f_Rec_firstWrongInChain_33 parents count k_8 x3_8 x3_8 x4_8))))
def f_Rec_firstWrongInChain (parents : Nat → Int32) (wrongBits : Nat → Int32) (count : Int32) (p0 : Int32) : Option (Int32) :=
  bnd ((-9)) (fun x2_v2 => rl3 (f_Rec_firstWrongInChain_8 parents wrongBits count) FUEL x2_v2 p0 0)
def f_Rec_isInChain_5 (parents : Nat → Int32) (count : Int32) (p0 : Int32) (x3_5 : Int32) (x4_5 : Int32) (k_5 : Int32 → Int32 → Option (Int32)) : Option (Int32) :=
  if 40 ≤ x4_5 then (some (0))
  else (if x3_5 = ((-9)) then (some (0))
  else (if ¬ x3_5 = p0 then (cal (f_Rec_parentOf parents count x3_5) (fun o_27 => k_5 o_27 (x4_5 + 1)))
  else (some (1))))
def f_Rec_isInChain (parents : Nat → Int32) (count : Int32) (p0 : Int32) (p1 : Int32) : Option (Int32) :=
  rl2 (f_Rec_isInChain_5 parents count p0) FUEL p1 0
def f_Rec_meetingOf_5 (parents : Nat → Int32) (count : Int32) (p1 : Int32) (x3_5 : Int32) (x4_5 : Int32) (k_5 : Int32 → Int32 → Option (Int32)) : Option (Int32) :=
  if 40 ≤ x4_5 then (some ((-9)))
  else (if x3_5 = ((-9)) then (some ((-9)))
  else (cal (f_Rec_isInChain parents count x3_5 p1) (fun o_21 => if o_21 = 0 then (cal (f_Rec_parentOf parents count x3_5) (fun o_31 => k_5 o_31 (x4_5 + 1)))
  else (some (x3_5)))))
def f_Rec_meetingOf (parents : Nat → Int32) (count : Int32) (p0 : Int32) (p1 : Int32) : Option (Int32) :=
  rl2 (f_Rec_meetingOf_5 parents count p1) FUEL p0 0
def f_Rec_childrenOf_24 (k_4 : Int32 → Int32 → Option (Int32)) (x2_24 : Int32) (x3_24 : Int32) : Option (Int32) :=
  k_4 x2_24 (x3_24 + 1)
def f_Rec_childrenOf_4 (parents : Nat → Int32) (count : Int32) (p0 : Int32) (x2_4 : Int32) (x3_4 : Int32) (k_4 : Int32 → Int32 → Option (Int32)) : Option (Int32) :=
  if count ≤ x3_4 then (some (x2_4))
  else (cal (f_Rec_parentOf parents count x3_4) (fun o_14 => if ¬ o_14 = p0 then (f_Rec_childrenOf_24 k_4 x2_4 x3_4)
  else (f_Rec_childrenOf_24 k_4 (x2_4 + 1) x3_4)))
def f_Rec_childrenOf (parents : Nat → Int32) (count : Int32) (p0 : Int32) : Option (Int32) :=
  rl2 (f_Rec_childrenOf_4 parents count p0) FUEL 0 0
def f_Rec_taught (parents : Nat → Int32) (count : Int32) : Option (Int32) :=
  cal (f_Rec_childrenOf parents count ((-9))) (fun o_7 => some (count - o_7))
def f_Rec_wrong_25 (k_4 : Int32 → Int32 → Option (Int32)) (x1_25 : Int32) (x2_25 : Int32) : Option (Int32) :=
  k_4 x1_25 (x2_25 + 1)
def f_Rec_wrong_4 (wrongBits : Nat → Int32) (count : Int32) (x1_4 : Int32) (x2_4 : Int32) (k_4 : Int32 → Int32 → Option (Int32)) : Option (Int32) :=
  if count ≤ x2_4 then (some (x1_4))
  else (cal (f_Rec_wrongBitOf wrongBits count x2_4) (fun o_14 => if o_14 = ((-9)) then (f_Rec_wrong_25 k_4 x1_4 x2_4)
  else (f_Rec_wrong_25 k_4 (x1_4 + 1) x2_4)))
def f_Rec_wrong (wrongBits : Nat → Int32) (count : Int32) : Option (Int32) :=
  rl2 (f_Rec_wrong_4 wrongBits count) FUEL 0 0
def f_Rec_greatestGeneration_5 (parents : Nat → Int32) (count : Int32) (x1_5 : Int32) (x2_5 : Int32) (k_5 : Int32 → Int32 → Option (Int32)) : Option (Int32) :=
  if count ≤ x2_5 then (some (x1_5))
  else (cal (f_Rec_generationOf parents count x2_5) (fun o_16 => k_5 (imax x1_5 o_16) (x2_5 + 1)))
def f_Rec_greatestGeneration (parents : Nat → Int32) (count : Int32) : Option (Int32) :=
  bnd ((-9)) (fun x1_v2 => rl2 (f_Rec_greatestGeneration_5 parents count) FUEL x1_v2 0)
def f_Scr_groupAt_5 (p1 : Int32) (x3_5 : Int64) (x5_5 : Int32) (k_5 : Int64 → Int32 → Option (Int32)) : Option (Int32) :=
  if p1 ≤ x5_5 then (some (Int64.toInt32 (x3_5 - x3_5 / 100000 * 100000)))
  else (bnd (x3_5 / 100000) (fun x3_v16 => k_5 x3_v16 (x5_5 + 1)))
def f_Scr_groupAt (p0 : Int64) (p1 : Int32) : Option (Int32) :=
  rl2 (f_Scr_groupAt_5 p1) FUEL p0 0
def f_Scr_isSwitched_28 (p2 : Int32) (s1_28 : Int32) : Option (Int32) :=
  if ¬ p2 = s1_28 then (some (0))
  else (some (1))
def f_Scr_isSwitched (b0_devices_count : Int32) (b0_devices_on : Int32) (p1 : Int32) (p2 : Int32) : Option (Int32) :=
  cal (f_Dev_has b0_devices_count p1) (fun o_5 => if o_5 = 0 then (some (0))
  else (cal (f_Dev_isOn b0_devices_count b0_devices_on p1) (fun o_17 => if o_17 = 0 then (f_Scr_isSwitched_28 p2 0)
  else (f_Scr_isSwitched_28 p2 1))))
def f_Str_recordOf (recordOfKey : Nat → Int32) (houses : Int32) (p0 : Int32) (p1 : Int32) : Option (Int32) :=
  cal (f_Str_hasKey houses p0 p1) (fun o_3 => if o_3 = 0 then (some ((-9)))
  else (gd (¬ (((p0 * 6) + p1) < 0 ∨ 54 ≤ ((p0 * 6) + p1).toNatClampNeg)) (some (recordOfKey ((p0 * 6) + p1).toNatClampNeg))))
def f_Str_codeOf (records_codes : Nat → Int32) (records_count : Int32) (recordOfKey : Nat → Int32) (houses : Int32) (p0 : Int32) (p1 : Int32) : Option (Int32) :=
  cal (f_Str_recordOf recordOfKey houses p0 p1) (fun o_7 => cal (f_Rec_codeOf records_codes records_count o_7) (fun o_10 => some (o_10)))
def f_Str_isAccepted (records_codes : Nat → Int32) (records_count : Int32) (devices_houses : Nat → Int32) (devices_codes : Nat → Int32) (devices_tolerances : Nat → Int32) (devices_count : Int32) (recordOfKey : Nat → Int32) (houses : Int32) (reach : Int32) (p0 : Int32) (p1 : Int32) (p2 : Int32) : Option (Int32) :=
  cal (f_Str_codeOf records_codes records_count recordOfKey houses p0 p1) (fun o_9 => cal (f_Dev_accepts devices_houses devices_codes devices_tolerances devices_count p2 p0 o_9 reach) (fun o_16 => gd (o_16 = 0 ∨ o_16 = 1) (some (o_16))))
def f_Str_hasCode (recordOfKey : Nat → Int32) (houses : Int32) (p0 : Int32) (p1 : Int32) : Option (Int32) :=
  cal (f_Str_recordOf recordOfKey houses p0 p1) (fun o_3 => if o_3 = ((-9)) then (some (0))
  else (some (1)))
def f_Scr_hasWrongBits (b0_records_parents : Nat → Int32) (b0_records_wrongBits : Nat → Int32) (b0_records_count : Int32) (b0_recordOfKey : Nat → Int32) (b0_houses : Int32) (p1 : Int32) (p2 : Int32) (p3 : Int32) : Option (Int32) :=
  cal (f_Str_hasCode b0_recordOfKey b0_houses p1 p2) (fun o_3 => if o_3 = 0 then (some (0))
  else (cal (f_Str_recordOf b0_recordOfKey b0_houses p1 p2) (fun o_16 => cal (f_Rec_wrongBitsInChain b0_records_parents b0_records_wrongBits b0_records_count o_16) (fun o_19 => if p3 < o_19 then (some (0))
  else (some (1))))))
def f_Scr_hasGeneration (b0_records_parents : Nat → Int32) (b0_records_count : Int32) (b0_recordOfKey : Nat → Int32) (b0_houses : Int32) (p1 : Int32) (p2 : Int32) (p3 : Int32) : Option (Int32) :=
  cal (f_Str_hasCode b0_recordOfKey b0_houses p1 p2) (fun o_3 => if o_3 = 0 then (some (0))
  else (cal (f_Str_recordOf b0_recordOfKey b0_houses p1 p2) (fun o_16 => cal (f_Rec_generationOf b0_records_parents b0_records_count o_16) (fun o_19 => if ¬ o_19 = p3 then (some (0))
  else (some (1))))))
def f_TR_isWithin (p0 : Int32) (p1 : Int32) (p2 : Int32) : Option (Int32) :=
  if p0 < p1 then (some (0))
  else (if p2 < p0 then (some (0))
  else (some (1)))
def f_TR_isTolerance (p0 : Int32) : Option (Int32) :=
  cal (f_TR_isWithin p0 0 3) (fun o_3 => gd (o_3 = 0 ∨ o_3 = 1) (some (o_3)))
def f_Scr_setsTolerance (b0_devices_tolerances : Nat → Int32) (b0_devices_count : Int32) (p1 : Int32) (p2 : Int32) : Option (Int32 × (Nat → Int32)) :=
  cal (f_Dev_has b0_devices_count p1) (fun o_5 => if o_5 = 0 then (some (0, b0_devices_tolerances))
  else (cal (f_TR_isTolerance p2) (fun o_12 => if ¬ o_12 = 0 then (cal (f_Dev_changeTolerance b0_devices_tolerances b0_devices_count p1 p2) (fun o_26 => some (1, o_26.2)))
  else (some (0, b0_devices_tolerances)))))
def f_TR_isSetting_13 (p0 : Int32) (p1 : Int32) : Option (Int32) :=
  if ¬ p0 = 1 then (some (0))
  else (cal (f_TR_isWithin p1 0 8) (fun o_22 => if o_22 = 0 then (some (0))
  else (some (1))))
def f_TR_isSetting (p0 : Int32) (p1 : Int32) : Option (Int32) :=
  if ¬ p0 = 0 then (f_TR_isSetting_13 p0 p1)
  else (cal (f_TR_isWithin p1 0 3) (fun o_7 => if ¬ o_7 = 0 then (some (1))
  else (f_TR_isSetting_13 p0 p1)))
def f_Scr_sets (b0_noise : Int32) (b0_reach : Int32) (p1 : Int32) (p2 : Int32) : Option (Int32 × Int32 × Int32) :=
  cal (f_TR_isSetting p1 p2) (fun o_2 => if ¬ o_2 = 0 then (cal (f_Str_changeSetting b0_noise b0_reach p1 p2) (fun o_13 => some (1, o_13.2.1, o_13.2.2)))
  else (some (0, b0_noise, b0_reach)))
def f_Str_eraseKey (records_codes : Nat → Int32) (records_count : Int32) (recordOfKey : Nat → Int32) (houses : Int32) (p0 : Int32) (p1 : Int32) : Option (Int32 × (Nat → Int32)) :=
  cal (f_Str_codeOf records_codes records_count recordOfKey houses p0 p1) (fun o_3 => cal (f_Str_giveRecord recordOfKey houses p0 p1 ((-9))) (fun o_12 => some (o_3, o_12)))
def f_Scr_erases (b0_records_codes : Nat → Int32) (b0_records_count : Int32) (b0_recordOfKey : Nat → Int32) (b0_houses : Int32) (p1 : Int32) (p2 : Int32) : Option (Int32 × (Nat → Int32)) :=
  cal (f_Str_hasKey b0_houses p1 p2) (fun o_3 => if ¬ o_3 = 0 then (cal (f_Str_eraseKey b0_records_codes b0_records_count b0_recordOfKey b0_houses p1 p2) (fun o_14 => some (1, o_14.2)))
  else (some (0, b0_recordOfKey)))
def f_Str_pressKey (records_codes : Nat → Int32) (records_count : Int32) (devices_houses : Nat → Int32) (devices_codes : Nat → Int32) (devices_tolerances : Nat → Int32) (devices_count : Int32) (devices_on : Int32) (recordOfKey : Nat → Int32) (houses : Int32) (reach : Int32) (p0 : Int32) (p1 : Int32) : Option (Int32 × Int32) :=
  cal (f_Str_codeOf records_codes records_count recordOfKey houses p0 p1) (fun o_8 => cal (f_Dev_accepting devices_houses devices_codes devices_tolerances devices_count p0 o_8 reach) (fun o_15 => cal (f_Dev_switchOver devices_on o_15) (fun o_24 => some (o_15, o_24))))
def f_Scr_presses (b0_records_codes : Nat → Int32) (b0_records_count : Int32) (b0_devices_houses : Nat → Int32) (b0_devices_codes : Nat → Int32) (b0_devices_tolerances : Nat → Int32) (b0_devices_count : Int32) (b0_devices_on : Int32) (b0_recordOfKey : Nat → Int32) (b0_houses : Int32) (b0_reach : Int32) (p1 : Int32) (p2 : Int32) : Option (Int32 × Int32) :=
  cal (f_Str_hasCode b0_recordOfKey b0_houses p1 p2) (fun o_3 => if ¬ o_3 = 0 then (cal (f_Str_pressKey b0_records_codes b0_records_count b0_devices_houses b0_devices_codes b0_devices_tolerances b0_devices_count b0_devices_on b0_recordOfKey b0_houses b0_reach p1 p2) (fun o_14 => some (1, o_14.2)))
  else (some (0, b0_devices_on)))
def f_Str_canTeach (records_count : Int32) (recordOfKey : Nat → Int32) (houses : Int32) (p0 : Int32) (p1 : Int32) : Option (Int32) :=
  cal (f_Str_hasCode recordOfKey houses p0 p1) (fun o_3 => if o_3 = 0 then (some (0))
  else (cal (f_Rec_hasRoom records_count) (fun o_13 => if o_13 = 0 then (some (0))
  else (some (1)))))
def f_Str_teachKey (records_codes : Nat → Int32) (records_houses : Nat → Int32) (records_keys : Nat → Int32) (records_parents : Nat → Int32) (records_wrongBits : Nat → Int32) (records_count : Int32) (recordOfKey : Nat → Int32) (houses : Int32) (noise : Int32) (x : Int64) (p0 : Int32) (p1 : Int32) (p2 : Int32) (p3 : Int32) : Option (Int32 × (Nat → Int32) × (Nat → Int32) × (Nat → Int32) × (Nat → Int32) × (Nat → Int32) × Int32 × (Nat → Int32) × Int64) :=
  cal (f_Noi_next x) (fun o_5 => cal (f_Str_recordOf recordOfKey houses p0 p1) (fun o_14 => cal (f_Noi_wrongBit o_5 noise (iabs (p0 - p2))) (fun o_33 => cal (f_Rec_codeOf records_codes records_count o_14) (fun o_44 => cal (f_Noi_changed o_44 o_33) (fun o_49 => cal (f_Rec_add records_codes records_houses records_keys records_parents records_wrongBits records_count o_49 p2 p3 o_14 o_33) (fun o_71 => cal (f_Str_giveRecord recordOfKey houses p2 p3 o_71.1) (fun o_74 => some (o_49, o_71.2.1, o_71.2.2.1, o_71.2.2.2.1, o_71.2.2.2.2.1, o_71.2.2.2.2.2.1, o_71.2.2.2.2.2.2, o_74, o_5))))))))
def f_Scr_teaches_16 (b0_records_codes : Nat → Int32) (b0_records_houses : Nat → Int32) (b0_records_keys : Nat → Int32) (b0_records_parents : Nat → Int32) (b0_records_wrongBits : Nat → Int32) (b0_records_count : Int32) (b0_recordOfKey : Nat → Int32) (b0_houses : Int32) (b0_noise : Int32) (b0_x : Int64) (p1 : Int32) (p2 : Int32) (p3 : Int32) (p4 : Int32) (s0_16 : Int32) : Option (Int32 × (Nat → Int32) × (Nat → Int32) × (Nat → Int32) × (Nat → Int32) × (Nat → Int32) × Int32 × (Nat → Int32) × Int64) :=
  cal (f_Str_hasKey b0_houses p3 p4) (fun o_22 => if o_22 = 0 then (some (0, b0_records_codes, b0_records_houses, b0_records_keys, b0_records_parents, b0_records_wrongBits, b0_records_count, b0_recordOfKey, b0_x))
  else (if ¬ s0_16 = 0 then (some (0, b0_records_codes, b0_records_houses, b0_records_keys, b0_records_parents, b0_records_wrongBits, b0_records_count, b0_recordOfKey, b0_x))
  else (cal (f_Str_canTeach b0_records_count b0_recordOfKey b0_houses p1 p2) (fun o_36 => if ¬ o_36 = 0 then (cal (f_Str_teachKey b0_records_codes b0_records_houses b0_records_keys b0_records_parents b0_records_wrongBits b0_records_count b0_recordOfKey b0_houses b0_noise b0_x p1 p2 p3 p4) (fun o_50 => some (1, o_50.2.1, o_50.2.2.1, o_50.2.2.2.1, o_50.2.2.2.2.1, o_50.2.2.2.2.2.1, o_50.2.2.2.2.2.2.1, o_50.2.2.2.2.2.2.2.1, o_50.2.2.2.2.2.2.2.2)))
  else (some (0, b0_records_codes, b0_records_houses, b0_records_keys, b0_records_parents, b0_records_wrongBits, b0_records_count, b0_recordOfKey, b0_x))))))
def f_Scr_teaches_15 (b0_records_codes : Nat → Int32) (b0_records_houses : Nat → Int32) (b0_records_keys : Nat → Int32) (b0_records_parents : Nat → Int32) (b0_records_wrongBits : Nat → Int32) (b0_records_count : Int32) (b0_recordOfKey : Nat → Int32) (b0_houses : Int32) (b0_noise : Int32) (b0_x : Int64) (p1 : Int32) (p2 : Int32) (p3 : Int32) (p4 : Int32) : Option (Int32 × (Nat → Int32) × (Nat → Int32) × (Nat → Int32) × (Nat → Int32) × (Nat → Int32) × Int32 × (Nat → Int32) × Int64) :=
  f_Scr_teaches_16 b0_records_codes b0_records_houses b0_records_keys b0_records_parents b0_records_wrongBits b0_records_count b0_recordOfKey b0_houses b0_noise b0_x p1 p2 p3 p4 0
def f_Scr_teaches (b0_records_codes : Nat → Int32) (b0_records_houses : Nat → Int32) (b0_records_keys : Nat → Int32) (b0_records_parents : Nat → Int32) (b0_records_wrongBits : Nat → Int32) (b0_records_count : Int32) (b0_recordOfKey : Nat → Int32) (b0_houses : Int32) (b0_noise : Int32) (b0_x : Int64) (p1 : Int32) (p2 : Int32) (p3 : Int32) (p4 : Int32) : Option (Int32 × (Nat → Int32) × (Nat → Int32) × (Nat → Int32) × (Nat → Int32) × (Nat → Int32) × Int32 × (Nat → Int32) × Int64) :=
  if ¬ p1 = p3 then (f_Scr_teaches_15 b0_records_codes b0_records_houses b0_records_keys b0_records_parents b0_records_wrongBits b0_records_count b0_recordOfKey b0_houses b0_noise b0_x p1 p2 p3 p4)
  else (if ¬ p2 = p4 then (f_Scr_teaches_15 b0_records_codes b0_records_houses b0_records_keys b0_records_parents b0_records_wrongBits b0_records_count b0_recordOfKey b0_houses b0_noise b0_x p1 p2 p3 p4)
  else (f_Scr_teaches_16 b0_records_codes b0_records_houses b0_records_keys b0_records_parents b0_records_wrongBits b0_records_count b0_recordOfKey b0_houses b0_noise b0_x p1 p2 p3 p4 1))
def f_Scr_succeeds (b0_records_codes : Nat → Int32) (b0_records_houses : Nat → Int32) (b0_records_keys : Nat → Int32) (b0_records_parents : Nat → Int32) (b0_records_wrongBits : Nat → Int32) (b0_records_count : Int32) (b0_devices_houses : Nat → Int32) (b0_devices_codes : Nat → Int32) (b0_devices_tolerances : Nat → Int32) (b0_devices_count : Int32) (b0_devices_on : Int32) (b0_recordOfKey : Nat → Int32) (b0_houses : Int32) (b0_noise : Int32) (b0_reach : Int32) (b0_x : Int64) (p1 : Int32) : Option (Int32 × (Nat → Int32) × (Nat → Int32) × (Nat → Int32) × (Nat → Int32) × (Nat → Int32) × Int32 × (Nat → Int32) × Int32 × (Nat → Int32) × Int32 × Int32 × Int64) :=
  bnd ((p1 / 1000) - (p1 / 1000) / 10 * 10) (fun x2_v8 => bnd ((p1 / 100) - (p1 / 100) / 10 * 10) (fun x3_v16 => bnd ((p1 / 10) - (p1 / 10) / 10 * 10) (fun x4_v24 => bnd (p1 - p1 / 10 * 10) (fun x5_v30 => if (p1 / 10000) = 1 then (cal (f_Scr_teaches b0_records_codes b0_records_houses b0_records_keys b0_records_parents b0_records_wrongBits b0_records_count b0_recordOfKey b0_houses b0_noise b0_x x2_v8 x3_v16 x4_v24 x5_v30) (fun o_95 => gd (o_95.1 = 0 ∨ o_95.1 = 1) (some (o_95.1, o_95.2.1, o_95.2.2.1, o_95.2.2.2.1, o_95.2.2.2.2.1, o_95.2.2.2.2.2.1, o_95.2.2.2.2.2.2.1, b0_devices_tolerances, b0_devices_on, o_95.2.2.2.2.2.2.2.1, b0_noise, b0_reach, o_95.2.2.2.2.2.2.2.2))))
  else (if (p1 / 10000) = 2 then (if ¬ x4_v24 = 0 then (some (0, b0_records_codes, b0_records_houses, b0_records_keys, b0_records_parents, b0_records_wrongBits, b0_records_count, b0_devices_tolerances, b0_devices_on, b0_recordOfKey, b0_noise, b0_reach, b0_x))
  else (if ¬ x5_v30 = 0 then (some (0, b0_records_codes, b0_records_houses, b0_records_keys, b0_records_parents, b0_records_wrongBits, b0_records_count, b0_devices_tolerances, b0_devices_on, b0_recordOfKey, b0_noise, b0_reach, b0_x))
  else (cal (f_Scr_presses b0_records_codes b0_records_count b0_devices_houses b0_devices_codes b0_devices_tolerances b0_devices_count b0_devices_on b0_recordOfKey b0_houses b0_reach x2_v8 x3_v16) (fun o_112 => if o_112.1 = 0 then (some (0, b0_records_codes, b0_records_houses, b0_records_keys, b0_records_parents, b0_records_wrongBits, b0_records_count, b0_devices_tolerances, o_112.2, b0_recordOfKey, b0_noise, b0_reach, b0_x))
  else (some (1, b0_records_codes, b0_records_houses, b0_records_keys, b0_records_parents, b0_records_wrongBits, b0_records_count, b0_devices_tolerances, o_112.2, b0_recordOfKey, b0_noise, b0_reach, b0_x))))))
  else (if (p1 / 10000) = 3 then (if ¬ x4_v24 = 0 then (some (0, b0_records_codes, b0_records_houses, b0_records_keys, b0_records_parents, b0_records_wrongBits, b0_records_count, b0_devices_tolerances, b0_devices_on, b0_recordOfKey, b0_noise, b0_reach, b0_x))
  else (if ¬ x5_v30 = 0 then (some (0, b0_records_codes, b0_records_houses, b0_records_keys, b0_records_parents, b0_records_wrongBits, b0_records_count, b0_devices_tolerances, b0_devices_on, b0_recordOfKey, b0_noise, b0_reach, b0_x))
  else (cal (f_Scr_erases b0_records_codes b0_records_count b0_recordOfKey b0_houses x2_v8 x3_v16) (fun o_137 => if o_137.1 = 0 then (some (0, b0_records_codes, b0_records_houses, b0_records_keys, b0_records_parents, b0_records_wrongBits, b0_records_count, b0_devices_tolerances, b0_devices_on, o_137.2, b0_noise, b0_reach, b0_x))
  else (some (1, b0_records_codes, b0_records_houses, b0_records_keys, b0_records_parents, b0_records_wrongBits, b0_records_count, b0_devices_tolerances, b0_devices_on, o_137.2, b0_noise, b0_reach, b0_x))))))
  else (if (p1 / 10000) = 4 then (if ¬ x4_v24 = 0 then (some (0, b0_records_codes, b0_records_houses, b0_records_keys, b0_records_parents, b0_records_wrongBits, b0_records_count, b0_devices_tolerances, b0_devices_on, b0_recordOfKey, b0_noise, b0_reach, b0_x))
  else (if ¬ x5_v30 = 0 then (some (0, b0_records_codes, b0_records_houses, b0_records_keys, b0_records_parents, b0_records_wrongBits, b0_records_count, b0_devices_tolerances, b0_devices_on, b0_recordOfKey, b0_noise, b0_reach, b0_x))
  else (cal (f_Scr_sets b0_noise b0_reach x2_v8 x3_v16) (fun o_162 => if o_162.1 = 0 then (some (0, b0_records_codes, b0_records_houses, b0_records_keys, b0_records_parents, b0_records_wrongBits, b0_records_count, b0_devices_tolerances, b0_devices_on, b0_recordOfKey, o_162.2.1, o_162.2.2, b0_x))
  else (some (1, b0_records_codes, b0_records_houses, b0_records_keys, b0_records_parents, b0_records_wrongBits, b0_records_count, b0_devices_tolerances, b0_devices_on, b0_recordOfKey, o_162.2.1, o_162.2.2, b0_x))))))
  else (if (p1 / 10000) = 5 then (if ¬ x4_v24 = 0 then (some (0, b0_records_codes, b0_records_houses, b0_records_keys, b0_records_parents, b0_records_wrongBits, b0_records_count, b0_devices_tolerances, b0_devices_on, b0_recordOfKey, b0_noise, b0_reach, b0_x))
  else (if ¬ x5_v30 = 0 then (some (0, b0_records_codes, b0_records_houses, b0_records_keys, b0_records_parents, b0_records_wrongBits, b0_records_count, b0_devices_tolerances, b0_devices_on, b0_recordOfKey, b0_noise, b0_reach, b0_x))
  else (cal (f_Scr_setsTolerance b0_devices_tolerances b0_devices_count x2_v8 x3_v16) (fun o_187 => if o_187.1 = 0 then (some (0, b0_records_codes, b0_records_houses, b0_records_keys, b0_records_parents, b0_records_wrongBits, b0_records_count, o_187.2, b0_devices_on, b0_recordOfKey, b0_noise, b0_reach, b0_x))
  else (some (1, b0_records_codes, b0_records_houses, b0_records_keys, b0_records_parents, b0_records_wrongBits, b0_records_count, o_187.2, b0_devices_on, b0_recordOfKey, b0_noise, b0_reach, b0_x))))))
  else (if (p1 / 10000) = 6 then (if ¬ x4_v24 = 0 then (some (0, b0_records_codes, b0_records_houses, b0_records_keys, b0_records_parents, b0_records_wrongBits, b0_records_count, b0_devices_tolerances, b0_devices_on, b0_recordOfKey, b0_noise, b0_reach, b0_x))
  else (cal (f_Scr_hasGeneration b0_records_parents b0_records_count b0_recordOfKey b0_houses x2_v8 x3_v16 x5_v30) (fun o_209 => if o_209 = 0 then (some (0, b0_records_codes, b0_records_houses, b0_records_keys, b0_records_parents, b0_records_wrongBits, b0_records_count, b0_devices_tolerances, b0_devices_on, b0_recordOfKey, b0_noise, b0_reach, b0_x))
  else (some (1, b0_records_codes, b0_records_houses, b0_records_keys, b0_records_parents, b0_records_wrongBits, b0_records_count, b0_devices_tolerances, b0_devices_on, b0_recordOfKey, b0_noise, b0_reach, b0_x)))))
  else (if (p1 / 10000) = 7 then (if ¬ x4_v24 = 0 then (some (0, b0_records_codes, b0_records_houses, b0_records_keys, b0_records_parents, b0_records_wrongBits, b0_records_count, b0_devices_tolerances, b0_devices_on, b0_recordOfKey, b0_noise, b0_reach, b0_x))
  else (cal (f_Scr_hasWrongBits b0_records_parents b0_records_wrongBits b0_records_count b0_recordOfKey b0_houses x2_v8 x3_v16 x5_v30) (fun o_231 => if o_231 = 0 then (some (0, b0_records_codes, b0_records_houses, b0_records_keys, b0_records_parents, b0_records_wrongBits, b0_records_count, b0_devices_tolerances, b0_devices_on, b0_recordOfKey, b0_noise, b0_reach, b0_x))
  else (some (1, b0_records_codes, b0_records_houses, b0_records_keys, b0_records_parents, b0_records_wrongBits, b0_records_count, b0_devices_tolerances, b0_devices_on, b0_recordOfKey, b0_noise, b0_reach, b0_x)))))
  else (if (p1 / 10000) = 8 then (if ¬ x5_v30 = 0 then (some (0, b0_records_codes, b0_records_houses, b0_records_keys, b0_records_parents, b0_records_wrongBits, b0_records_count, b0_devices_tolerances, b0_devices_on, b0_recordOfKey, b0_noise, b0_reach, b0_x))
  else (cal (f_Str_isAccepted b0_records_codes b0_records_count b0_devices_houses b0_devices_codes b0_devices_tolerances b0_devices_count b0_recordOfKey b0_houses b0_reach x2_v8 x3_v16 x4_v24) (fun o_253 => if o_253 = 0 then (some (0, b0_records_codes, b0_records_houses, b0_records_keys, b0_records_parents, b0_records_wrongBits, b0_records_count, b0_devices_tolerances, b0_devices_on, b0_recordOfKey, b0_noise, b0_reach, b0_x))
  else (some (1, b0_records_codes, b0_records_houses, b0_records_keys, b0_records_parents, b0_records_wrongBits, b0_records_count, b0_devices_tolerances, b0_devices_on, b0_recordOfKey, b0_noise, b0_reach, b0_x)))))
  else (if (p1 / 10000) = 9 then (if ¬ x3_v16 = 0 then (some (0, b0_records_codes, b0_records_houses, b0_records_keys, b0_records_parents, b0_records_wrongBits, b0_records_count, b0_devices_tolerances, b0_devices_on, b0_recordOfKey, b0_noise, b0_reach, b0_x))
  else (if ¬ x4_v24 = 0 then (some (0, b0_records_codes, b0_records_houses, b0_records_keys, b0_records_parents, b0_records_wrongBits, b0_records_count, b0_devices_tolerances, b0_devices_on, b0_recordOfKey, b0_noise, b0_reach, b0_x))
  else (cal (f_Scr_isSwitched b0_devices_count b0_devices_on x2_v8 x5_v30) (fun o_278 => if o_278 = 0 then (some (0, b0_records_codes, b0_records_houses, b0_records_keys, b0_records_parents, b0_records_wrongBits, b0_records_count, b0_devices_tolerances, b0_devices_on, b0_recordOfKey, b0_noise, b0_reach, b0_x))
  else (some (1, b0_records_codes, b0_records_houses, b0_records_keys, b0_records_parents, b0_records_wrongBits, b0_records_count, b0_devices_tolerances, b0_devices_on, b0_recordOfKey, b0_noise, b0_reach, b0_x))))))
  else (some (0, b0_records_codes, b0_records_houses, b0_records_keys, b0_records_parents, b0_records_wrongBits, b0_records_count, b0_devices_tolerances, b0_devices_on, b0_recordOfKey, b0_noise, b0_reach, b0_x))))))))))))))
def f_Slo_has (p0 : Int32) : Option (Int32) :=
  if p0 < 0 then (some (0))
  else (if 2 ≤ p0 then (some (0))
  else (some (1)))
def f_Slo_isFilled (filled : Int32) (p0 : Int32) : Option (Int32) :=
  cal (f_Slo_has p0) (fun o_2 => if o_2 = 0 then (some (0))
  else (if ¬ ((filled >>> (p0 &&& 31)) &&& 1) = 1 then (some (0))
  else (some (1))))
def f_Slo_emptyAll (filled : Int32) : Option (Int32) :=
  some (0)
def f_Str_copyFrom (records_codes : Nat → Int32) (records_houses : Nat → Int32) (records_keys : Nat → Int32) (records_parents : Nat → Int32) (records_wrongBits : Nat → Int32) (records_count : Int32) (devices_houses : Nat → Int32) (devices_codes : Nat → Int32) (devices_tolerances : Nat → Int32) (devices_count : Int32) (devices_on : Int32) (recordOfKey : Nat → Int32) (houses : Int32) (noise : Int32) (reach : Int32) (x : Int64) (b0_records_codes : Nat → Int32) (b0_records_houses : Nat → Int32) (b0_records_keys : Nat → Int32) (b0_records_parents : Nat → Int32) (b0_records_wrongBits : Nat → Int32) (b0_records_count : Int32) (b0_devices_houses : Nat → Int32) (b0_devices_codes : Nat → Int32) (b0_devices_tolerances : Nat → Int32) (b0_devices_count : Int32) (b0_devices_on : Int32) (b0_recordOfKey : Nat → Int32) (b0_houses : Int32) (b0_noise : Int32) (b0_reach : Int32) (b0_x : Int64) : Option ((Nat → Int32) × (Nat → Int32) × (Nat → Int32) × (Nat → Int32) × (Nat → Int32) × Int32 × (Nat → Int32) × (Nat → Int32) × (Nat → Int32) × Int32 × Int32 × (Nat → Int32) × Int32 × Int32 × Int32 × Int64) :=
  cal (f_Rec_copyFrom records_codes records_houses records_keys records_parents records_wrongBits records_count b0_records_codes b0_records_houses b0_records_keys b0_records_parents b0_records_wrongBits b0_records_count) (fun o_8 => cal (f_Dev_copyFrom devices_houses devices_codes devices_tolerances devices_count devices_on b0_devices_houses b0_devices_codes b0_devices_tolerances b0_devices_count b0_devices_on) (fun o_19 => some (o_8.1, o_8.2.1, o_8.2.2.1, o_8.2.2.2.1, o_8.2.2.2.2.1, o_8.2.2.2.2.2, o_19.1, o_19.2.1, o_19.2.2.1, o_19.2.2.2.1, o_19.2.2.2.2, va_cpy b0_recordOfKey recordOfKey 0 0 54, b0_houses, b0_noise, b0_reach, b0_x)))
def f_Str_noise (noise : Int32) : Option (Int32) :=
  some (noise)
def f_Str_reach (reach : Int32) : Option (Int32) :=
  some (reach)
def f_Str_hasHouse (houses : Int32) (p0 : Int32) : Option (Int32) :=
  if p0 < 0 then (some (0))
  else (if houses ≤ p0 then (some (0))
  else (if 9 ≤ p0 then (some (0))
  else (some (1))))
def f_Str_differentRoots_48 (k_14 : Int64 → Int32 → Option (Int32)) (x1_48 : Int64) (x5_48 : Int32) : Option (Int32) :=
  k_14 x1_48 (x5_48 + 1)
def f_Str_differentRoots_14 (records_parents : Nat → Int32) (records_count : Int32) (recordOfKey : Nat → Int32) (x1_14 : Int64) (x5_14 : Int32) (k_14 : Int64 → Int32 → Option (Int32)) : Option (Int32) :=
  if 54 ≤ x5_14 then (cal (f_L_bitCount x1_14) (fun o_55 => some (o_55)))
  else (gd (¬ (x5_14 < 0 ∨ 54 ≤ (x5_14).toNatClampNeg)) (bnd (recordOfKey (x5_14).toNatClampNeg) (fun x6_v25 => if x6_v25 = ((-9)) then (f_Str_differentRoots_48 k_14 x1_14 x5_14)
  else (cal (f_Rec_rootOf records_parents records_count x6_v25) (fun o_42 => bnd (x1_14 ||| ((1 : Int64) <<< ((Int32.toInt64 o_42) &&& 63))) (fun x1_v47 => f_Str_differentRoots_48 k_14 x1_v47 x5_14))))))
def f_Str_differentRoots (records_parents : Nat → Int32) (records_count : Int32) (recordOfKey : Nat → Int32) : Option (Int32) :=
  rl2 (f_Str_differentRoots_14 records_parents records_count recordOfKey) FUEL 0 0
def f_Str_keysFrom_43 (k_14 : Int32 → Int32 → Option (Int32)) (x2_43 : Int32) (x5_43 : Int32) : Option (Int32) :=
  k_14 x2_43 (x5_43 + 1)
def f_Str_keysFrom_14 (records_parents : Nat → Int32) (records_count : Int32) (recordOfKey : Nat → Int32) (p0 : Int32) (x2_14 : Int32) (x5_14 : Int32) (k_14 : Int32 → Int32 → Option (Int32)) : Option (Int32) :=
  if 54 ≤ x5_14 then (some (x2_14))
  else (gd (¬ (x5_14 < 0 ∨ 54 ≤ (x5_14).toNatClampNeg)) (bnd (recordOfKey (x5_14).toNatClampNeg) (fun x6_v25 => cal (f_Rec_isInChain records_parents records_count p0 x6_v25) (fun o_34 => if o_34 = 0 then (f_Str_keysFrom_43 k_14 x2_14 x5_14)
  else (f_Str_keysFrom_43 k_14 (x2_14 + 1) x5_14)))))
def f_Str_keysFrom (records_parents : Nat → Int32) (records_count : Int32) (recordOfKey : Nat → Int32) (p0 : Int32) : Option (Int32) :=
  rl2 (f_Str_keysFrom_14 records_parents records_count recordOfKey p0) FUEL 0 0
def f_Str_keysAcceptedBy_46 (k_15 : Int32 → Int32 → Int32 → Option (Int32)) (x2_46 : Int32) (x3_46 : Int32) (x4_46 : Int32) : Option (Int32) :=
  k_15 x2_46 x3_46 (x4_46 + 1)
def f_Str_keysAcceptedBy_15 (records_codes : Nat → Int32) (records_count : Int32) (devices_houses : Nat → Int32) (devices_codes : Nat → Int32) (devices_tolerances : Nat → Int32) (devices_count : Int32) (recordOfKey : Nat → Int32) (houses : Int32) (p0 : Int32) (k_4 : Int32 → Int32 → Option (Int32)) (x2_15 : Int32) (x3_15 : Int32) (x4_15 : Int32) (k_15 : Int32 → Int32 → Int32 → Option (Int32)) : Option (Int32) :=
  if 6 ≤ x4_15 then (k_4 x2_15 (x3_15 + 1))
  else (cal (f_Str_codeOf records_codes records_count recordOfKey houses x3_15 x4_15) (fun o_32 => cal (f_Dev_accepts devices_houses devices_codes devices_tolerances devices_count p0 x3_15 o_32 8) (fun o_37 => if o_37 = 0 then (f_Str_keysAcceptedBy_46 k_15 x2_15 x3_15 x4_15)
  else (f_Str_keysAcceptedBy_46 k_15 (x2_15 + 1) x3_15 x4_15))))
def f_Str_keysAcceptedBy_4 (records_codes : Nat → Int32) (records_count : Int32) (devices_houses : Nat → Int32) (devices_codes : Nat → Int32) (devices_tolerances : Nat → Int32) (devices_count : Int32) (recordOfKey : Nat → Int32) (houses : Int32) (p0 : Int32) (x2_4 : Int32) (x3_4 : Int32) (k_4 : Int32 → Int32 → Option (Int32)) : Option (Int32) :=
  if houses ≤ x3_4 then (some (x2_4))
  else (rl3 (f_Str_keysAcceptedBy_15 records_codes records_count devices_houses devices_codes devices_tolerances devices_count recordOfKey houses p0 k_4) FUEL x2_4 x3_4 0)
def f_Str_keysAcceptedBy (records_codes : Nat → Int32) (records_count : Int32) (devices_houses : Nat → Int32) (devices_codes : Nat → Int32) (devices_tolerances : Nat → Int32) (devices_count : Int32) (recordOfKey : Nat → Int32) (houses : Int32) (p0 : Int32) : Option (Int32) :=
  rl2 (f_Str_keysAcceptedBy_4 records_codes records_count devices_houses devices_codes devices_tolerances devices_count recordOfKey houses p0) FUEL 0 0
def f_Str_acceptingDevices (records_codes : Nat → Int32) (records_count : Int32) (devices_houses : Nat → Int32) (devices_codes : Nat → Int32) (devices_tolerances : Nat → Int32) (devices_count : Int32) (recordOfKey : Nat → Int32) (houses : Int32) (reach : Int32) (p0 : Int32) (p1 : Int32) : Option (Int32) :=
  cal (f_Str_codeOf records_codes records_count recordOfKey houses p0 p1) (fun o_8 => cal (f_Dev_accepting devices_houses devices_codes devices_tolerances devices_count p0 o_8 reach) (fun o_15 => some (o_15)))
def f_Str_codeIfTaught (records_codes : Nat → Int32) (records_count : Int32) (recordOfKey : Nat → Int32) (houses : Int32) (noise : Int32) (x : Int64) (p0 : Int32) (p1 : Int32) (p2 : Int32) : Option (Int32) :=
  cal (f_Str_hasCode recordOfKey houses p0 p1) (fun o_3 => if ¬ o_3 = 0 then (cal (f_Str_codeOf records_codes records_count recordOfKey houses p0 p1) (fun o_15 => cal (f_Noi_next x) (fun o_22 => cal (f_Noi_learned o_15 o_22 noise (iabs (p0 - p2))) (fun o_35 => some (o_35)))))
  else (some ((-9))))
def f_Str_codeIfHanded_35 (noise : Int32) (x7_v30 : Int32) (x4_35 : Int32) (x5_35 : Int64) (x8_35 : Int32) (k_35 : Int32 → Int64 → Int32 → Option (Int32)) : Option (Int32) :=
  if x7_v30 ≤ x8_35 then (some (x4_35))
  else (cal (f_Noi_next x5_35) (fun o_44 => cal (f_Noi_learned x4_35 o_44 noise 1) (fun o_58 => k_35 o_58 o_44 (x8_35 + 1))))
def f_Str_codeIfHanded (records_codes : Nat → Int32) (records_count : Int32) (recordOfKey : Nat → Int32) (houses : Int32) (noise : Int32) (x : Int64) (p0 : Int32) (p1 : Int32) (p2 : Int32) : Option (Int32) :=
  cal (f_Str_codeOf records_codes records_count recordOfKey houses p0 p1) (fun o_3 => if ¬ o_3 = ((-9)) then (bnd (iabs (p0 - p2)) (fun x7_v30 => rl3 (f_Str_codeIfHanded_35 noise x7_v30) FUEL o_3 x 0))
  else (some ((-9))))
def f_TR_apart (p0 : Int32) (p1 : Int32) : Option (Int32) :=
  cal (f_I_bitCount (p0 ^^^ p1)) (fun o_3 => some (o_3))
def f_Str_teacherNearestTo_75 (k_22 : Int32 → Int32 → Int32 → Int32 → Option (Int32)) (x3_75 : Int32) (x4_75 : Int32) (x5_75 : Int32) (x6_75 : Int32) : Option (Int32) :=
  k_22 x3_75 x4_75 x5_75 (x6_75 + 1)
def f_Str_teacherNearestTo_22 (records_codes : Nat → Int32) (records_count : Int32) (recordOfKey : Nat → Int32) (houses : Int32) (noise : Int32) (x : Int64) (p0 : Int32) (p1 : Int32) (k_10 : Int32 → Int32 → Int32 → Option (Int32)) (x3_22 : Int32) (x4_22 : Int32) (x5_22 : Int32) (x6_22 : Int32) (k_22 : Int32 → Int32 → Int32 → Int32 → Option (Int32)) : Option (Int32) :=
  if 6 ≤ x6_22 then (k_10 x3_22 x4_22 (x5_22 + 1))
  else (cal (f_Str_codeIfTaught records_codes records_count recordOfKey houses noise x x5_22 x6_22 p1) (fun o_35 => if o_35 = ((-9)) then (f_Str_teacherNearestTo_75 k_22 x3_22 x4_22 x5_22 x6_22)
  else (cal (f_TR_apart o_35 p0) (fun o_50 => if x4_22 ≤ o_50 then (f_Str_teacherNearestTo_75 k_22 x3_22 x4_22 x5_22 x6_22)
  else (cal (f_TR_apart o_35 p0) (fun o_61 => bnd ((10 * x5_22) + x6_22) (fun x3_v74 => f_Str_teacherNearestTo_75 k_22 x3_v74 o_61 x5_22 x6_22)))))))
def f_Str_teacherNearestTo_10 (records_codes : Nat → Int32) (records_count : Int32) (recordOfKey : Nat → Int32) (houses : Int32) (noise : Int32) (x : Int64) (p0 : Int32) (p1 : Int32) (x3_10 : Int32) (x4_10 : Int32) (x5_10 : Int32) (k_10 : Int32 → Int32 → Int32 → Option (Int32)) : Option (Int32) :=
  if houses ≤ x5_10 then (some (x3_10))
  else (rl4 (f_Str_teacherNearestTo_22 records_codes records_count recordOfKey houses noise x p0 p1 k_10) FUEL x3_10 x4_10 x5_10 0)
def f_Str_teacherNearestTo (records_codes : Nat → Int32) (records_count : Int32) (recordOfKey : Nat → Int32) (houses : Int32) (noise : Int32) (x : Int64) (p0 : Int32) (p1 : Int32) : Option (Int32) :=
  bnd ((-9)) (fun x3_v2 => rl3 (f_Str_teacherNearestTo_10 records_codes records_count recordOfKey houses noise x p0 p1) FUEL x3_v2 13 0)
def f_Str_farthestFrom_72 (k_14 : Int32 → Int32 → Option (Int32)) (x2_72 : Int32) (x5_72 : Int32) : Option (Int32) :=
  k_14 x2_72 (x5_72 + 1)
def f_Str_farthestFrom_14 (records_codes : Nat → Int32) (records_parents : Nat → Int32) (records_count : Int32) (recordOfKey : Nat → Int32) (p0 : Int32) (x2_14 : Int32) (x5_14 : Int32) (k_14 : Int32 → Int32 → Option (Int32)) : Option (Int32) :=
  if 54 ≤ x5_14 then (some (x2_14))
  else (gd (¬ (x5_14 < 0 ∨ 54 ≤ (x5_14).toNatClampNeg)) (bnd (recordOfKey (x5_14).toNatClampNeg) (fun x6_v25 => if x6_v25 = ((-9)) then (f_Str_farthestFrom_72 k_14 x2_14 x5_14)
  else (cal (f_Rec_rootOf records_parents records_count x6_v25) (fun o_44 => cal (f_Rec_codeOf records_codes records_count o_44) (fun o_47 => if ¬ o_47 = p0 then (f_Str_farthestFrom_72 k_14 x2_14 x5_14)
  else (cal (f_Rec_codeOf records_codes records_count x6_v25) (fun o_61 => cal (f_TR_apart o_61 p0) (fun o_65 => bnd (imax x2_14 o_65) (fun x2_v71 => f_Str_farthestFrom_72 k_14 x2_v71 x5_14))))))))))
def f_Str_farthestFrom (records_codes : Nat → Int32) (records_parents : Nat → Int32) (records_count : Int32) (recordOfKey : Nat → Int32) (p0 : Int32) : Option (Int32) :=
  rl2 (f_Str_farthestFrom_14 records_codes records_parents records_count recordOfKey p0) FUEL 0 0
def f_Str_simulateWay_75 (p1 : Int32) (k_9 : Int64 → Int32 → Int32 → Option (Int32)) (x6_75 : Int64) (x9_75 : Int32) (x10_75 : Int32) (s0_75 : Int32) (s1_75 : Int32) : Option (Int32) :=
  cal (f_TR_apart x10_75 p1) (fun o_78 => bnd (s0_75 + (s1_75 + o_78)) (fun x8_v83 => k_9 x6_75 x8_v83 (x9_75 + 1)))
def f_Str_simulateWay_24 (houses : Int32) (noise : Int32) (p1 : Int32) (k_9 : Int64 → Int32 → Int32 → Option (Int32)) (x6_24 : Int64) (x8_24 : Int32) (x9_24 : Int32) (x10_24 : Int32) (x11_24 : Int32) (k_24 : Int64 → Int32 → Int32 → Int32 → Int32 → Option (Int32)) : Option (Int32) :=
  if houses ≤ x11_24 then (if ¬ x10_24 = p1 then (f_Str_simulateWay_75 p1 k_9 x6_24 x9_24 x10_24 x8_24 0)
  else (f_Str_simulateWay_75 p1 k_9 x6_24 x9_24 x10_24 x8_24 1000))
  else (cal (f_Noi_next x6_24) (fun o_35 => cal (f_Noi_learned x10_24 o_35 noise 1) (fun o_49 => k_24 o_35 x8_24 x9_24 o_49 (x11_24 + 1))))
def f_Str_simulateWay_9 (houses : Int32) (noise : Int32) (p0 : Int32) (p1 : Int32) (p3 : Int32) (x6_9 : Int64) (x8_9 : Int32) (x9_9 : Int32) (k_9 : Int64 → Int32 → Int32 → Option (Int32)) : Option (Int32) :=
  if p3 ≤ x9_9 then (some (x8_9))
  else (bnd (p0 + 1) (fun x11_v22 => rl5 (f_Str_simulateWay_24 houses noise p1 k_9) FUEL x6_9 x8_9 x9_9 p1 x11_v22))
def f_Str_simulateWay (houses : Int32) (noise : Int32) (p0 : Int32) (p1 : Int32) (p2 : Int64) (p3 : Int32) : Option (Int32) :=
  rl3 (f_Str_simulateWay_9 houses noise p0 p1 p3) FUEL p2 0 0
def f_Txt_isFull (length : Int32) : Option (Int32) :=
  if length < 120 then (some (0))
  else (some (1))
def f_Txt_add_37 (signs_37 : Nat → Int32) (length_37 : Int32) : Option (Int32 × (Nat → Int32) × Int32) :=
  some (length_37, signs_37, length_37)
def f_Txt_add (signs : Nat → Int32) (length : Int32) (p0 : Int32) : Option (Int32 × (Nat → Int32) × Int32) :=
  if length < 0 then (f_Txt_add_37 signs length)
  else (if 120 ≤ length then (f_Txt_add_37 signs length)
  else (gd (¬ (length < 0 ∨ 120 ≤ (length).toNatClampNeg)) (f_Txt_add_37 (upd signs (length).toNatClampNeg (vp_nar .char ((Int32.toUInt32 p0 % 65536).toInt32))) (length + 1))))
def f_Txt_empty (length : Int32) : Option (Int32 × Int32) :=
  some (length, 0)
def f_TR_append_26 (text_signs : Nat → Int32) (text_length : Int32) (p0 : Int32) (s0_26 : Int32) : Option (Nat × Int32 × (Nat → Int32) × Int32) :=
  cal (f_TR_requireState s0_26) (fun o_26 => if ¬ o_26 = 0 then some (o_26, 0, text_signs, text_length)
  else (cal (f_Txt_add text_signs text_length p0) (fun o_34 => some (0, o_34.1, o_34.2.1, o_34.2.2))))
def f_TR_append (text_signs : Nat → Int32) (text_length : Int32) (p0 : Int32) : Option (Nat × Int32 × (Nat → Int32) × Int32) :=
  cal (f_TR_isWithin p0 0 255) (fun o_5 => cal (f_TR_requireArgument o_5) (fun o_8 => if ¬ o_8 = 0 then some (o_8, 0, text_signs, text_length)
  else (cal (f_Txt_isFull text_length) (fun o_15 => if ¬ o_15 = 0 then (f_TR_append_26 text_signs text_length p0 0)
  else (f_TR_append_26 text_signs text_length p0 1)))))
def f_TR_clearText (text_length : Int32) : Option (Int32 × Int32) :=
  cal (f_Txt_empty text_length) (fun o_4 => some (o_4.1, o_4.2))
def f_TR_errorPosition (spare_records_codes : Nat → Int32) (spare_records_houses : Nat → Int32) (spare_records_keys : Nat → Int32) (spare_records_parents : Nat → Int32) (spare_records_wrongBits : Nat → Int32) (spare_records_count : Int32) (spare_devices_houses : Nat → Int32) (spare_devices_codes : Nat → Int32) (spare_devices_tolerances : Nat → Int32) (spare_devices_count : Int32) (spare_devices_on : Int32) (spare_recordOfKey : Nat → Int32) (spare_houses : Int32) (spare_noise : Int32) (spare_reach : Int32) (spare_x : Int64) (text_signs : Nat → Int32) (text_length : Int32) (reader_place : Int32) : Option (Int32 × (Nat → Int32) × (Nat → Int32) × (Nat → Int32) × (Nat → Int32) × (Nat → Int32) × Int32 × (Nat → Int32) × (Nat → Int32) × (Nat → Int32) × Int32 × Int32 × (Nat → Int32) × Int32 × Int32 × Int32 × Int64 × Int32) :=
  cal (f_Rdr_read reader_place text_signs text_length spare_records_codes spare_records_houses spare_records_keys spare_records_parents spare_records_wrongBits spare_records_count spare_devices_houses spare_devices_codes spare_devices_tolerances spare_devices_count spare_devices_on spare_recordOfKey spare_houses spare_noise spare_reach spare_x) (fun o_12 => some (o_12.1, o_12.2.2.1, o_12.2.2.2.1, o_12.2.2.2.2.1, o_12.2.2.2.2.2.1, o_12.2.2.2.2.2.2.1, o_12.2.2.2.2.2.2.2.1, o_12.2.2.2.2.2.2.2.2.1, o_12.2.2.2.2.2.2.2.2.2.1, o_12.2.2.2.2.2.2.2.2.2.2.1, o_12.2.2.2.2.2.2.2.2.2.2.2.1, o_12.2.2.2.2.2.2.2.2.2.2.2.2.1, o_12.2.2.2.2.2.2.2.2.2.2.2.2.2.1, o_12.2.2.2.2.2.2.2.2.2.2.2.2.2.2.1, o_12.2.2.2.2.2.2.2.2.2.2.2.2.2.2.2.1, o_12.2.2.2.2.2.2.2.2.2.2.2.2.2.2.2.2.1, o_12.2.2.2.2.2.2.2.2.2.2.2.2.2.2.2.2.2, o_12.2.1))
def wSv0 : SV := (fun _ => 0, fun _ => 0, fun _ => 0, fun _ => 0, fun _ => 0, 0, fun _ => 0, fun _ => 0, fun _ => 0, 0, 0, fun _ => 0, 0, 0, 0, 0)
def f_Mem_remember (states : Nat → SV) (oldest count : Int32) (b0_records_codes : Nat → Int32) (b0_records_houses : Nat → Int32) (b0_records_keys : Nat → Int32) (b0_records_parents : Nat → Int32) (b0_records_wrongBits : Nat → Int32) (b0_records_count : Int32) (b0_devices_houses : Nat → Int32) (b0_devices_codes : Nat → Int32) (b0_devices_tolerances : Nat → Int32) (b0_devices_count : Int32) (b0_devices_on : Int32) (b0_recordOfKey : Nat → Int32) (b0_houses : Int32) (b0_noise : Int32) (b0_reach : Int32) (b0_x : Int64) : Option ((Nat → SV) × Int32 × Int32) :=
  cal (f_Mth_floorMod (oldest + count) 14) (fun k => gd (¬ (k < 0 ∨ 14 ≤ k.toNatClampNeg)) (cal (f_Str_copyFrom (states k.toNatClampNeg).1 (states k.toNatClampNeg).2.1 (states k.toNatClampNeg).2.2.1 (states k.toNatClampNeg).2.2.2.1 (states k.toNatClampNeg).2.2.2.2.1 (states k.toNatClampNeg).2.2.2.2.2.1 (states k.toNatClampNeg).2.2.2.2.2.2.1 (states k.toNatClampNeg).2.2.2.2.2.2.2.1 (states k.toNatClampNeg).2.2.2.2.2.2.2.2.1 (states k.toNatClampNeg).2.2.2.2.2.2.2.2.2.1 (states k.toNatClampNeg).2.2.2.2.2.2.2.2.2.2.1 (states k.toNatClampNeg).2.2.2.2.2.2.2.2.2.2.2.1 (states k.toNatClampNeg).2.2.2.2.2.2.2.2.2.2.2.2.1 (states k.toNatClampNeg).2.2.2.2.2.2.2.2.2.2.2.2.2.1 (states k.toNatClampNeg).2.2.2.2.2.2.2.2.2.2.2.2.2.2.1 (states k.toNatClampNeg).2.2.2.2.2.2.2.2.2.2.2.2.2.2.2 b0_records_codes b0_records_houses b0_records_keys b0_records_parents b0_records_wrongBits b0_records_count b0_devices_houses b0_devices_codes b0_devices_tolerances b0_devices_count b0_devices_on b0_recordOfKey b0_houses b0_noise b0_reach b0_x) (fun o => if 14 ≤ count then some (va_up states k.toNatClampNeg o, (oldest + 1) - (oldest + 1) / 14 * 14, count) else some (va_up states k.toNatClampNeg o, oldest, count + 1))))
def f_Mem_takeBack (states : Nat → SV) (oldest count : Int32) (b0_records_codes : Nat → Int32) (b0_records_houses : Nat → Int32) (b0_records_keys : Nat → Int32) (b0_records_parents : Nat → Int32) (b0_records_wrongBits : Nat → Int32) (b0_records_count : Int32) (b0_devices_houses : Nat → Int32) (b0_devices_codes : Nat → Int32) (b0_devices_tolerances : Nat → Int32) (b0_devices_count : Int32) (b0_devices_on : Int32) (b0_recordOfKey : Nat → Int32) (b0_houses : Int32) (b0_noise : Int32) (b0_reach : Int32) (b0_x : Int64) : Option (Int32 × Int32 × SV) :=
  if count ≤ 0 then some (count, count, b0_records_codes, b0_records_houses, b0_records_keys, b0_records_parents, b0_records_wrongBits, b0_records_count, b0_devices_houses, b0_devices_codes, b0_devices_tolerances, b0_devices_count, b0_devices_on, b0_recordOfKey, b0_houses, b0_noise, b0_reach, b0_x) else cal (f_Mth_floorMod (oldest + (count - 1)) 14) (fun k => gd (¬ (k < 0 ∨ 14 ≤ k.toNatClampNeg)) (cal (f_Str_copyFrom b0_records_codes b0_records_houses b0_records_keys b0_records_parents b0_records_wrongBits b0_records_count b0_devices_houses b0_devices_codes b0_devices_tolerances b0_devices_count b0_devices_on b0_recordOfKey b0_houses b0_noise b0_reach b0_x (states k.toNatClampNeg).1 (states k.toNatClampNeg).2.1 (states k.toNatClampNeg).2.2.1 (states k.toNatClampNeg).2.2.2.1 (states k.toNatClampNeg).2.2.2.2.1 (states k.toNatClampNeg).2.2.2.2.2.1 (states k.toNatClampNeg).2.2.2.2.2.2.1 (states k.toNatClampNeg).2.2.2.2.2.2.2.1 (states k.toNatClampNeg).2.2.2.2.2.2.2.2.1 (states k.toNatClampNeg).2.2.2.2.2.2.2.2.2.1 (states k.toNatClampNeg).2.2.2.2.2.2.2.2.2.2.1 (states k.toNatClampNeg).2.2.2.2.2.2.2.2.2.2.2.1 (states k.toNatClampNeg).2.2.2.2.2.2.2.2.2.2.2.2.1 (states k.toNatClampNeg).2.2.2.2.2.2.2.2.2.2.2.2.2.1 (states k.toNatClampNeg).2.2.2.2.2.2.2.2.2.2.2.2.2.2.1 (states k.toNatClampNeg).2.2.2.2.2.2.2.2.2.2.2.2.2.2.2) (fun o => some (count - 1, count - 1, o))))
def f_Slo_keep (states : Nat → SV) (filled : Int32) (b1_records_codes : Nat → Int32) (b1_records_houses : Nat → Int32) (b1_records_keys : Nat → Int32) (b1_records_parents : Nat → Int32) (b1_records_wrongBits : Nat → Int32) (b1_records_count : Int32) (b1_devices_houses : Nat → Int32) (b1_devices_codes : Nat → Int32) (b1_devices_tolerances : Nat → Int32) (b1_devices_count : Int32) (b1_devices_on : Int32) (b1_recordOfKey : Nat → Int32) (b1_houses : Int32) (b1_noise : Int32) (b1_reach : Int32) (b1_x : Int64) (p0 : Int32) : Option ((Nat → SV) × Int32) :=
  gd (f_Slo_has p0 = some 1) (gd (¬ (p0 < 0 ∨ 2 ≤ p0.toNatClampNeg)) (cal (f_Str_copyFrom (states p0.toNatClampNeg).1 (states p0.toNatClampNeg).2.1 (states p0.toNatClampNeg).2.2.1 (states p0.toNatClampNeg).2.2.2.1 (states p0.toNatClampNeg).2.2.2.2.1 (states p0.toNatClampNeg).2.2.2.2.2.1 (states p0.toNatClampNeg).2.2.2.2.2.2.1 (states p0.toNatClampNeg).2.2.2.2.2.2.2.1 (states p0.toNatClampNeg).2.2.2.2.2.2.2.2.1 (states p0.toNatClampNeg).2.2.2.2.2.2.2.2.2.1 (states p0.toNatClampNeg).2.2.2.2.2.2.2.2.2.2.1 (states p0.toNatClampNeg).2.2.2.2.2.2.2.2.2.2.2.1 (states p0.toNatClampNeg).2.2.2.2.2.2.2.2.2.2.2.2.1 (states p0.toNatClampNeg).2.2.2.2.2.2.2.2.2.2.2.2.2.1 (states p0.toNatClampNeg).2.2.2.2.2.2.2.2.2.2.2.2.2.2.1 (states p0.toNatClampNeg).2.2.2.2.2.2.2.2.2.2.2.2.2.2.2 b1_records_codes b1_records_houses b1_records_keys b1_records_parents b1_records_wrongBits b1_records_count b1_devices_houses b1_devices_codes b1_devices_tolerances b1_devices_count b1_devices_on b1_recordOfKey b1_houses b1_noise b1_reach b1_x) (fun o => some (va_up states p0.toNatClampNeg o, filled ||| (1 <<< (p0 &&& 31))))))
def f_Slo_giveBack (states : Nat → SV) (filled : Int32) (b1_records_codes : Nat → Int32) (b1_records_houses : Nat → Int32) (b1_records_keys : Nat → Int32) (b1_records_parents : Nat → Int32) (b1_records_wrongBits : Nat → Int32) (b1_records_count : Int32) (b1_devices_houses : Nat → Int32) (b1_devices_codes : Nat → Int32) (b1_devices_tolerances : Nat → Int32) (b1_devices_count : Int32) (b1_devices_on : Int32) (b1_recordOfKey : Nat → Int32) (b1_houses : Int32) (b1_noise : Int32) (b1_reach : Int32) (b1_x : Int64) (p0 : Int32) : Option SV :=
  gd (f_Slo_has p0 = some 1) (gd (¬ (p0 < 0 ∨ 2 ≤ p0.toNatClampNeg)) (f_Str_copyFrom b1_records_codes b1_records_houses b1_records_keys b1_records_parents b1_records_wrongBits b1_records_count b1_devices_houses b1_devices_codes b1_devices_tolerances b1_devices_count b1_devices_on b1_recordOfKey b1_houses b1_noise b1_reach b1_x (states p0.toNatClampNeg).1 (states p0.toNatClampNeg).2.1 (states p0.toNatClampNeg).2.2.1 (states p0.toNatClampNeg).2.2.2.1 (states p0.toNatClampNeg).2.2.2.2.1 (states p0.toNatClampNeg).2.2.2.2.2.1 (states p0.toNatClampNeg).2.2.2.2.2.2.1 (states p0.toNatClampNeg).2.2.2.2.2.2.2.1 (states p0.toNatClampNeg).2.2.2.2.2.2.2.2.1 (states p0.toNatClampNeg).2.2.2.2.2.2.2.2.2.1 (states p0.toNatClampNeg).2.2.2.2.2.2.2.2.2.2.1 (states p0.toNatClampNeg).2.2.2.2.2.2.2.2.2.2.2.1 (states p0.toNatClampNeg).2.2.2.2.2.2.2.2.2.2.2.2.1 (states p0.toNatClampNeg).2.2.2.2.2.2.2.2.2.2.2.2.2.1 (states p0.toNatClampNeg).2.2.2.2.2.2.2.2.2.2.2.2.2.2.1 (states p0.toNatClampNeg).2.2.2.2.2.2.2.2.2.2.2.2.2.2.2))
def f_TR_load_25 (street_records_codes : Nat → Int32) (street_records_houses : Nat → Int32) (street_records_keys : Nat → Int32) (street_records_parents : Nat → Int32) (street_records_wrongBits : Nat → Int32) (street_records_count : Int32) (street_devices_houses : Nat → Int32) (street_devices_codes : Nat → Int32) (street_devices_tolerances : Nat → Int32) (street_devices_count : Int32) (street_devices_on : Int32) (street_recordOfKey : Nat → Int32) (street_houses : Int32) (street_noise : Int32) (street_reach : Int32) (street_x : Int64) (memory_count : Int32) (slots_filled : Int32) (o_12 : Int32 × Int32 × (Nat → Int32) × (Nat → Int32) × (Nat → Int32) × (Nat → Int32) × (Nat → Int32) × Int32 × (Nat → Int32) × (Nat → Int32) × (Nat → Int32) × Int32 × Int32 × (Nat → Int32) × Int32 × Int32 × Int32 × Int64) (s0_25 : Int32) : Option (Nat × Int32 × (Nat → Int32) × (Nat → Int32) × (Nat → Int32) × (Nat → Int32) × (Nat → Int32) × Int32 × (Nat → Int32) × (Nat → Int32) × (Nat → Int32) × Int32 × Int32 × (Nat → Int32) × Int32 × Int32 × Int32 × Int64 × (Nat → Int32) × (Nat → Int32) × (Nat → Int32) × (Nat → Int32) × (Nat → Int32) × Int32 × (Nat → Int32) × (Nat → Int32) × (Nat → Int32) × Int32 × Int32 × (Nat → Int32) × Int32 × Int32 × Int32 × Int64 × Int32 × Int32 × Int32) :=
  cal (f_TR_requireState s0_25) (fun o_25 => if ¬ o_25 = 0 then some (o_25, 0, street_records_codes, street_records_houses, street_records_keys, street_records_parents, street_records_wrongBits, street_records_count, street_devices_houses, street_devices_codes, street_devices_tolerances, street_devices_count, street_devices_on, street_recordOfKey, street_houses, street_noise, street_reach, street_x, o_12.2.2.1, o_12.2.2.2.1, o_12.2.2.2.2.1, o_12.2.2.2.2.2.1, o_12.2.2.2.2.2.2.1, o_12.2.2.2.2.2.2.2.1, o_12.2.2.2.2.2.2.2.2.1, o_12.2.2.2.2.2.2.2.2.2.1, o_12.2.2.2.2.2.2.2.2.2.2.1, o_12.2.2.2.2.2.2.2.2.2.2.2.1, o_12.2.2.2.2.2.2.2.2.2.2.2.2.1, o_12.2.2.2.2.2.2.2.2.2.2.2.2.2.1, o_12.2.2.2.2.2.2.2.2.2.2.2.2.2.2.1, o_12.2.2.2.2.2.2.2.2.2.2.2.2.2.2.2.1, o_12.2.2.2.2.2.2.2.2.2.2.2.2.2.2.2.2.1, o_12.2.2.2.2.2.2.2.2.2.2.2.2.2.2.2.2.2, memory_count, slots_filled, o_12.2.1)
  else (cal (f_Str_copyFrom street_records_codes street_records_houses street_records_keys street_records_parents street_records_wrongBits street_records_count street_devices_houses street_devices_codes street_devices_tolerances street_devices_count street_devices_on street_recordOfKey street_houses street_noise street_reach street_x o_12.2.2.1 o_12.2.2.2.1 o_12.2.2.2.2.1 o_12.2.2.2.2.2.1 o_12.2.2.2.2.2.2.1 o_12.2.2.2.2.2.2.2.1 o_12.2.2.2.2.2.2.2.2.1 o_12.2.2.2.2.2.2.2.2.2.1 o_12.2.2.2.2.2.2.2.2.2.2.1 o_12.2.2.2.2.2.2.2.2.2.2.2.1 o_12.2.2.2.2.2.2.2.2.2.2.2.2.1 o_12.2.2.2.2.2.2.2.2.2.2.2.2.2.1 o_12.2.2.2.2.2.2.2.2.2.2.2.2.2.2.1 o_12.2.2.2.2.2.2.2.2.2.2.2.2.2.2.2.1 o_12.2.2.2.2.2.2.2.2.2.2.2.2.2.2.2.2.1 o_12.2.2.2.2.2.2.2.2.2.2.2.2.2.2.2.2.2) (fun o_36 => cal (f_Mem_forgetAll memory_count) (fun o_43 => cal (f_Slo_emptyAll slots_filled) (fun o_50 => cal (f_Rec_count o_36.2.2.2.2.2.1) (fun o_60 => some (0, o_60, o_36.1, o_36.2.1, o_36.2.2.1, o_36.2.2.2.1, o_36.2.2.2.2.1, o_36.2.2.2.2.2.1, o_36.2.2.2.2.2.2.1, o_36.2.2.2.2.2.2.2.1, o_36.2.2.2.2.2.2.2.2.1, o_36.2.2.2.2.2.2.2.2.2.1, o_36.2.2.2.2.2.2.2.2.2.2.1, o_36.2.2.2.2.2.2.2.2.2.2.2.1, o_36.2.2.2.2.2.2.2.2.2.2.2.2.1, o_36.2.2.2.2.2.2.2.2.2.2.2.2.2.1, o_36.2.2.2.2.2.2.2.2.2.2.2.2.2.2.1, o_36.2.2.2.2.2.2.2.2.2.2.2.2.2.2.2, o_12.2.2.1, o_12.2.2.2.1, o_12.2.2.2.2.1, o_12.2.2.2.2.2.1, o_12.2.2.2.2.2.2.1, o_12.2.2.2.2.2.2.2.1, o_12.2.2.2.2.2.2.2.2.1, o_12.2.2.2.2.2.2.2.2.2.1, o_12.2.2.2.2.2.2.2.2.2.2.1, o_12.2.2.2.2.2.2.2.2.2.2.2.1, o_12.2.2.2.2.2.2.2.2.2.2.2.2.1, o_12.2.2.2.2.2.2.2.2.2.2.2.2.2.1, o_12.2.2.2.2.2.2.2.2.2.2.2.2.2.2.1, o_12.2.2.2.2.2.2.2.2.2.2.2.2.2.2.2.1, o_12.2.2.2.2.2.2.2.2.2.2.2.2.2.2.2.2.1, o_12.2.2.2.2.2.2.2.2.2.2.2.2.2.2.2.2.2, o_43, o_50, o_12.2.1)))))))
def f_TR_load (street_records_codes : Nat → Int32) (street_records_houses : Nat → Int32) (street_records_keys : Nat → Int32) (street_records_parents : Nat → Int32) (street_records_wrongBits : Nat → Int32) (street_records_count : Int32) (street_devices_houses : Nat → Int32) (street_devices_codes : Nat → Int32) (street_devices_tolerances : Nat → Int32) (street_devices_count : Int32) (street_devices_on : Int32) (street_recordOfKey : Nat → Int32) (street_houses : Int32) (street_noise : Int32) (street_reach : Int32) (street_x : Int64) (spare_records_codes : Nat → Int32) (spare_records_houses : Nat → Int32) (spare_records_keys : Nat → Int32) (spare_records_parents : Nat → Int32) (spare_records_wrongBits : Nat → Int32) (spare_records_count : Int32) (spare_devices_houses : Nat → Int32) (spare_devices_codes : Nat → Int32) (spare_devices_tolerances : Nat → Int32) (spare_devices_count : Int32) (spare_devices_on : Int32) (spare_recordOfKey : Nat → Int32) (spare_houses : Int32) (spare_noise : Int32) (spare_reach : Int32) (spare_x : Int64) (memory_count : Int32) (slots_filled : Int32) (text_signs : Nat → Int32) (text_length : Int32) (reader_place : Int32) : Option (Nat × Int32 × (Nat → Int32) × (Nat → Int32) × (Nat → Int32) × (Nat → Int32) × (Nat → Int32) × Int32 × (Nat → Int32) × (Nat → Int32) × (Nat → Int32) × Int32 × Int32 × (Nat → Int32) × Int32 × Int32 × Int32 × Int64 × (Nat → Int32) × (Nat → Int32) × (Nat → Int32) × (Nat → Int32) × (Nat → Int32) × Int32 × (Nat → Int32) × (Nat → Int32) × (Nat → Int32) × Int32 × Int32 × (Nat → Int32) × Int32 × Int32 × Int32 × Int64 × Int32 × Int32 × Int32) :=
  cal (f_Rdr_read reader_place text_signs text_length spare_records_codes spare_records_houses spare_records_keys spare_records_parents spare_records_wrongBits spare_records_count spare_devices_houses spare_devices_codes spare_devices_tolerances spare_devices_count spare_devices_on spare_recordOfKey spare_houses spare_noise spare_reach spare_x) (fun o_12 => if ¬ o_12.1 = ((-9)) then (f_TR_load_25 street_records_codes street_records_houses street_records_keys street_records_parents street_records_wrongBits street_records_count street_devices_houses street_devices_codes street_devices_tolerances street_devices_count street_devices_on street_recordOfKey street_houses street_noise street_reach street_x memory_count slots_filled o_12 0)
  else (f_TR_load_25 street_records_codes street_records_houses street_records_keys street_records_parents street_records_wrongBits street_records_count street_devices_houses street_devices_codes street_devices_tolerances street_devices_count street_devices_on street_recordOfKey street_houses street_noise street_reach street_x memory_count slots_filled o_12 1))
def f_TR_about (street_records_parents : Nat → Int32) (street_records_wrongBits : Nat → Int32) (street_records_count : Int32) (street_devices_count : Int32) (street_devices_on : Int32) (street_recordOfKey : Nat → Int32) (street_houses : Int32) (street_noise : Int32) (street_reach : Int32) (p0 : Int32) : Option (Nat × Int32) :=
  cal (f_TR_isWithin p0 0 9) (fun o_4 => cal (f_TR_requireArgument o_4) (fun o_7 => if ¬ o_7 = 0 then some (o_7, 0)
  else (if p0 = 0 then (cal (f_Str_houses street_houses) (fun o_64 => some (0, o_64)))
  else (if p0 = 1 then (cal (f_Dev_count street_devices_count) (fun o_75 => some (0, o_75)))
  else (if p0 = 2 then (cal (f_Rec_count street_records_count) (fun o_86 => some (0, o_86)))
  else (if p0 = 3 then (cal (f_Str_noise street_noise) (fun o_94 => some (0, o_94)))
  else (if p0 = 4 then (cal (f_Str_reach street_reach) (fun o_102 => some (0, o_102)))
  else (if p0 = 5 then (cal (f_Rec_taught street_records_parents street_records_count) (fun o_113 => some (0, o_113)))
  else (if p0 = 6 then (cal (f_Rec_wrong street_records_wrongBits street_records_count) (fun o_124 => some (0, o_124)))
  else (if p0 = 7 then (cal (f_Dev_on street_devices_on) (fun o_135 => some (0, o_135)))
  else (if p0 = 8 then (cal (f_Str_differentRoots street_records_parents street_records_count street_recordOfKey) (fun o_143 => some (0, o_143)))
  else (cal (f_Rec_greatestGeneration street_records_parents street_records_count) (fun o_154 => some (0, o_154))))))))))))))
def f_TR_requireKey (street_houses : Int32) (p0 : Int32) (p1 : Int32) : Option (Nat) :=
  cal (f_Str_hasKey street_houses p0 p1) (fun o_6 => cal (f_TR_requirePlace o_6) (fun o_9 => if ¬ o_9 = 0 then some (o_9)
  else (some (0))))
def f_TR_key (street_records_codes : Nat → Int32) (street_records_houses : Nat → Int32) (street_records_parents : Nat → Int32) (street_records_wrongBits : Nat → Int32) (street_records_count : Int32) (street_recordOfKey : Nat → Int32) (street_houses : Int32) (p0 : Int32) (p1 : Int32) (p2 : Int32) : Option (Nat × Int32) :=
  cal (f_TR_requireKey street_houses p0 p1) (fun o_3 => if ¬ o_3 = 0 then some (o_3, 0)
  else (cal (f_TR_isWithin p2 0 5) (fun o_9 => cal (f_TR_requireArgument o_9) (fun o_12 => if ¬ o_12 = 0 then some (o_12, 0)
  else (cal (f_Str_recordOf street_recordOfKey street_houses p0 p1) (fun o_21 => if ¬ o_21 = ((-9)) then (cal (f_Rec_rootOf street_records_parents street_records_count o_21) (fun o_45 => if p2 = 0 then (cal (f_Rec_codeOf street_records_codes street_records_count o_21) (fun o_93 => some (0, o_93)))
  else (if p2 = 1 then (some (0, o_21))
  else (if p2 = 2 then (cal (f_Rec_generationOf street_records_parents street_records_count o_21) (fun o_109 => some (0, o_109)))
  else (if p2 = 3 then (cal (f_Rec_houseOf street_records_houses street_records_count o_45) (fun o_122 => some (0, o_122)))
  else (if p2 = 4 then (cal (f_Rec_wrongBitsInChain street_records_parents street_records_wrongBits street_records_count o_21) (fun o_135 => some (0, o_135)))
  else (cal (f_Rec_codeOf street_records_codes street_records_count o_21) (fun o_148 => cal (f_Rec_codeOf street_records_codes street_records_count o_45) (fun o_160 => cal (f_TR_apart o_148 o_160) (fun o_163 => some (0, o_163)))))))))))
  else (some (0, (-9)))))))))
def f_TR_record (street_records_codes : Nat → Int32) (street_records_houses : Nat → Int32) (street_records_keys : Nat → Int32) (street_records_parents : Nat → Int32) (street_records_wrongBits : Nat → Int32) (street_records_count : Int32) (street_recordOfKey : Nat → Int32) (p0 : Int32) (p1 : Int32) : Option (Nat × Int32) :=
  cal (f_Rec_has street_records_count p0) (fun o_8 => cal (f_TR_requirePlace o_8) (fun o_11 => if ¬ o_11 = 0 then some (o_11, 0)
  else (cal (f_TR_isWithin p1 0 6) (fun o_18 => cal (f_TR_requireArgument o_18) (fun o_21 => if ¬ o_21 = 0 then some (o_21, 0)
  else (if p1 = 0 then (cal (f_Rec_parentOf street_records_parents street_records_count p0) (fun o_72 => some (0, o_72)))
  else (if p1 = 1 then (cal (f_Rec_houseOf street_records_houses street_records_count p0) (fun o_84 => some (0, o_84)))
  else (if p1 = 2 then (cal (f_Rec_keyOf street_records_keys street_records_count p0) (fun o_96 => some (0, o_96)))
  else (if p1 = 3 then (cal (f_Rec_codeOf street_records_codes street_records_count p0) (fun o_108 => some (0, o_108)))
  else (if p1 = 4 then (cal (f_Rec_wrongBitOf street_records_wrongBits street_records_count p0) (fun o_120 => some (0, o_120)))
  else (if p1 = 5 then (cal (f_Rec_childrenOf street_records_parents street_records_count p0) (fun o_132 => some (0, o_132)))
  else (cal (f_Str_keysFrom street_records_parents street_records_count street_recordOfKey p0) (fun o_141 => some (0, o_141))))))))))))))
def f_TR_device (street_records_codes : Nat → Int32) (street_records_count : Int32) (street_devices_houses : Nat → Int32) (street_devices_codes : Nat → Int32) (street_devices_tolerances : Nat → Int32) (street_devices_count : Int32) (street_devices_on : Int32) (street_recordOfKey : Nat → Int32) (street_houses : Int32) (p0 : Int32) (p1 : Int32) : Option (Nat × Int32) :=
  cal (f_Dev_has street_devices_count p0) (fun o_8 => cal (f_TR_requirePlace o_8) (fun o_11 => if ¬ o_11 = 0 then some (o_11, 0)
  else (cal (f_TR_isWithin p1 0 4) (fun o_17 => cal (f_TR_requireArgument o_17) (fun o_20 => if ¬ o_20 = 0 then some (o_20, 0)
  else (if p1 = 0 then (cal (f_Dev_houseOf street_devices_houses street_devices_count p0) (fun o_64 => some (0, o_64)))
  else (if p1 = 1 then (cal (f_Dev_codeOf street_devices_codes street_devices_count p0) (fun o_76 => some (0, o_76)))
  else (if p1 = 2 then (cal (f_Dev_toleranceOf street_devices_tolerances street_devices_count p0) (fun o_88 => some (0, o_88)))
  else (if p1 = 3 then (cal (f_Dev_isOn street_devices_count street_devices_on p0) (fun o_100 => if o_100 = 0 then (some (0, 0))
  else (some (0, 1))))
  else (cal (f_Str_keysAcceptedBy street_records_codes street_records_count street_devices_houses street_devices_codes street_devices_tolerances street_devices_count street_recordOfKey street_houses p0) (fun o_117 => some (0, o_117))))))))))))
def f_TR_trace_15 (street_records_parents : Nat → Int32) (street_records_count : Int32) (street_recordOfKey : Nat → Int32) (street_houses : Int32) (p0 : Int32) (p1 : Int32) (p2 : Int32) (s0_15 : Int32) : Option (Nat × Int32) :=
  cal (f_TR_requireArgument s0_15) (fun o_15 => if ¬ o_15 = 0 then some (o_15, 0)
  else (cal (f_Str_recordOf street_recordOfKey street_houses p0 p1) (fun o_31 => cal (f_Rec_ancestorOf street_records_parents street_records_count o_31 p2) (fun o_35 => some (0, o_35)))))
def f_TR_trace (street_records_parents : Nat → Int32) (street_records_count : Int32) (street_recordOfKey : Nat → Int32) (street_houses : Int32) (p0 : Int32) (p1 : Int32) (p2 : Int32) : Option (Nat × Int32) :=
  cal (f_TR_requireKey street_houses p0 p1) (fun o_3 => if ¬ o_3 = 0 then some (o_3, 0)
  else (if p2 < 0 then (f_TR_trace_15 street_records_parents street_records_count street_recordOfKey street_houses p0 p1 p2 0)
  else (f_TR_trace_15 street_records_parents street_records_count street_recordOfKey street_houses p0 p1 p2 1)))
def f_TR_wentWrong (street_records_parents : Nat → Int32) (street_records_wrongBits : Nat → Int32) (street_records_count : Int32) (street_recordOfKey : Nat → Int32) (street_houses : Int32) (p0 : Int32) (p1 : Int32) : Option (Nat × Int32) :=
  cal (f_TR_requireKey street_houses p0 p1) (fun o_3 => if ¬ o_3 = 0 then some (o_3, 0)
  else (cal (f_Str_recordOf street_recordOfKey street_houses p0 p1) (fun o_19 => cal (f_Rec_firstWrongInChain street_records_parents street_records_wrongBits street_records_count o_19) (fun o_22 => some (0, o_22)))))
def f_TR_common (street_records_parents : Nat → Int32) (street_records_count : Int32) (street_recordOfKey : Nat → Int32) (street_houses : Int32) (p0 : Int32) (p1 : Int32) (p2 : Int32) (p3 : Int32) : Option (Nat × Int32) :=
  cal (f_TR_requireKey street_houses p0 p1) (fun o_3 => if ¬ o_3 = 0 then some (o_3, 0)
  else (cal (f_TR_requireKey street_houses p2 p3) (fun o_10 => if ¬ o_10 = 0 then some (o_10, 0)
  else (cal (f_Str_recordOf street_recordOfKey street_houses p0 p1) (fun o_26 => cal (f_Str_recordOf street_recordOfKey street_houses p2 p3) (fun o_36 => cal (f_Rec_meetingOf street_records_parents street_records_count o_26 o_36) (fun o_39 => some (0, o_39))))))))
def f_TR_accepted (street_records_codes : Nat → Int32) (street_records_count : Int32) (street_devices_houses : Nat → Int32) (street_devices_codes : Nat → Int32) (street_devices_tolerances : Nat → Int32) (street_devices_count : Int32) (street_recordOfKey : Nat → Int32) (street_houses : Int32) (street_reach : Int32) (p0 : Int32) (p1 : Int32) : Option (Nat × Int32) :=
  cal (f_TR_requireKey street_houses p0 p1) (fun o_3 => if ¬ o_3 = 0 then some (o_3, 0)
  else (cal (f_Str_acceptingDevices street_records_codes street_records_count street_devices_houses street_devices_codes street_devices_tolerances street_devices_count street_recordOfKey street_houses street_reach p0 p1) (fun o_12 => some (0, o_12))))
def f_TR_isCode (p0 : Int32) : Option (Int32) :=
  cal (f_TR_isWithin p0 0 4095) (fun o_5 => gd (o_5 = 0 ∨ o_5 = 1) (some (o_5)))
def f_TR_enter (street_records_codes : Nat → Int32) (street_records_houses : Nat → Int32) (street_records_keys : Nat → Int32) (street_records_parents : Nat → Int32) (street_records_wrongBits : Nat → Int32) (street_records_count : Int32) (street_devices_houses : Nat → Int32) (street_devices_codes : Nat → Int32) (street_devices_tolerances : Nat → Int32) (street_devices_count : Int32) (street_devices_on : Int32) (street_recordOfKey : Nat → Int32) (street_houses : Int32) (street_noise : Int32) (street_reach : Int32) (street_x : Int64) (memory_states : Nat → SV) (memory_oldest : Int32) (memory_count : Int32) (p0 : Int32) (p1 : Int32) (p2 : Int32) : Option (Nat × Int32 × (Nat → Int32) × (Nat → Int32) × (Nat → Int32) × (Nat → Int32) × (Nat → Int32) × Int32 × (Nat → Int32) × (Nat → SV) × Int32 × Int32) :=
  cal (f_TR_requireKey street_houses p0 p1) (fun o_3 => if ¬ o_3 = 0 then some (o_3, 0, street_records_codes, street_records_houses, street_records_keys, street_records_parents, street_records_wrongBits, street_records_count, street_recordOfKey, memory_states, memory_oldest, memory_count)
  else (cal (f_TR_isCode p2) (fun o_7 => cal (f_TR_requireArgument o_7) (fun o_10 => if ¬ o_10 = 0 then some (o_10, 0, street_records_codes, street_records_houses, street_records_keys, street_records_parents, street_records_wrongBits, street_records_count, street_recordOfKey, memory_states, memory_oldest, memory_count)
  else (cal (f_Rec_hasRoom street_records_count) (fun o_20 => cal (f_TR_requireState o_20) (fun o_23 => if ¬ o_23 = 0 then some (o_23, 0, street_records_codes, street_records_houses, street_records_keys, street_records_parents, street_records_wrongBits, street_records_count, street_recordOfKey, memory_states, memory_oldest, memory_count)
  else (cal (f_Mem_remember memory_states memory_oldest memory_count street_records_codes street_records_houses street_records_keys street_records_parents street_records_wrongBits street_records_count street_devices_houses street_devices_codes street_devices_tolerances street_devices_count street_devices_on street_recordOfKey street_houses street_noise street_reach street_x) (fun o_34 => cal (f_Str_enterCode street_records_codes street_records_houses street_records_keys street_records_parents street_records_wrongBits street_records_count street_recordOfKey street_houses p0 p1 p2) (fun o_44 => some (0, o_44.1, o_44.2.1, o_44.2.2.1, o_44.2.2.2.1, o_44.2.2.2.2.1, o_44.2.2.2.2.2.1, o_44.2.2.2.2.2.2.1, o_44.2.2.2.2.2.2.2, o_34.1, o_34.2.1, o_34.2.2)))))))))))
def f_TR_teach_29 (street_records_codes : Nat → Int32) (street_records_houses : Nat → Int32) (street_records_keys : Nat → Int32) (street_records_parents : Nat → Int32) (street_records_wrongBits : Nat → Int32) (street_records_count : Int32) (street_devices_houses : Nat → Int32) (street_devices_codes : Nat → Int32) (street_devices_tolerances : Nat → Int32) (street_devices_count : Int32) (street_devices_on : Int32) (street_recordOfKey : Nat → Int32) (street_houses : Int32) (street_noise : Int32) (street_reach : Int32) (street_x : Int64) (memory_states : Nat → SV) (memory_oldest : Int32) (memory_count : Int32) (p0 : Int32) (p1 : Int32) (p2 : Int32) (p3 : Int32) (s0_29 : Int32) : Option (Nat × Int32 × (Nat → Int32) × (Nat → Int32) × (Nat → Int32) × (Nat → Int32) × (Nat → Int32) × Int32 × (Nat → Int32) × Int64 × (Nat → SV) × Int32 × Int32) :=
  cal (f_TR_requireArgument s0_29) (fun o_29 => if ¬ o_29 = 0 then some (o_29, 0, street_records_codes, street_records_houses, street_records_keys, street_records_parents, street_records_wrongBits, street_records_count, street_recordOfKey, street_x, memory_states, memory_oldest, memory_count)
  else (cal (f_Str_canTeach street_records_count street_recordOfKey street_houses p0 p1) (fun o_38 => cal (f_TR_requireState o_38) (fun o_41 => if ¬ o_41 = 0 then some (o_41, 0, street_records_codes, street_records_houses, street_records_keys, street_records_parents, street_records_wrongBits, street_records_count, street_recordOfKey, street_x, memory_states, memory_oldest, memory_count)
  else (cal (f_Mem_remember memory_states memory_oldest memory_count street_records_codes street_records_houses street_records_keys street_records_parents street_records_wrongBits street_records_count street_devices_houses street_devices_codes street_devices_tolerances street_devices_count street_devices_on street_recordOfKey street_houses street_noise street_reach street_x) (fun o_52 => cal (f_Str_teachKey street_records_codes street_records_houses street_records_keys street_records_parents street_records_wrongBits street_records_count street_recordOfKey street_houses street_noise street_x p0 p1 p2 p3) (fun o_64 => some (0, o_64.1, o_64.2.1, o_64.2.2.1, o_64.2.2.2.1, o_64.2.2.2.2.1, o_64.2.2.2.2.2.1, o_64.2.2.2.2.2.2.1, o_64.2.2.2.2.2.2.2.1, o_64.2.2.2.2.2.2.2.2, o_52.1, o_52.2.1, o_52.2.2))))))))
def f_TR_teach_24 (street_records_codes : Nat → Int32) (street_records_houses : Nat → Int32) (street_records_keys : Nat → Int32) (street_records_parents : Nat → Int32) (street_records_wrongBits : Nat → Int32) (street_records_count : Int32) (street_devices_houses : Nat → Int32) (street_devices_codes : Nat → Int32) (street_devices_tolerances : Nat → Int32) (street_devices_count : Int32) (street_devices_on : Int32) (street_recordOfKey : Nat → Int32) (street_houses : Int32) (street_noise : Int32) (street_reach : Int32) (street_x : Int64) (memory_states : Nat → SV) (memory_oldest : Int32) (memory_count : Int32) (p0 : Int32) (p1 : Int32) (p2 : Int32) (p3 : Int32) : Option (Nat × Int32 × (Nat → Int32) × (Nat → Int32) × (Nat → Int32) × (Nat → Int32) × (Nat → Int32) × Int32 × (Nat → Int32) × Int64 × (Nat → SV) × Int32 × Int32) :=
  f_TR_teach_29 street_records_codes street_records_houses street_records_keys street_records_parents street_records_wrongBits street_records_count street_devices_houses street_devices_codes street_devices_tolerances street_devices_count street_devices_on street_recordOfKey street_houses street_noise street_reach street_x memory_states memory_oldest memory_count p0 p1 p2 p3 1
def f_TR_teach (street_records_codes : Nat → Int32) (street_records_houses : Nat → Int32) (street_records_keys : Nat → Int32) (street_records_parents : Nat → Int32) (street_records_wrongBits : Nat → Int32) (street_records_count : Int32) (street_devices_houses : Nat → Int32) (street_devices_codes : Nat → Int32) (street_devices_tolerances : Nat → Int32) (street_devices_count : Int32) (street_devices_on : Int32) (street_recordOfKey : Nat → Int32) (street_houses : Int32) (street_noise : Int32) (street_reach : Int32) (street_x : Int64) (memory_states : Nat → SV) (memory_oldest : Int32) (memory_count : Int32) (p0 : Int32) (p1 : Int32) (p2 : Int32) (p3 : Int32) : Option (Nat × Int32 × (Nat → Int32) × (Nat → Int32) × (Nat → Int32) × (Nat → Int32) × (Nat → Int32) × Int32 × (Nat → Int32) × Int64 × (Nat → SV) × Int32 × Int32) :=
  cal (f_TR_requireKey street_houses p0 p1) (fun o_3 => if ¬ o_3 = 0 then some (o_3, 0, street_records_codes, street_records_houses, street_records_keys, street_records_parents, street_records_wrongBits, street_records_count, street_recordOfKey, street_x, memory_states, memory_oldest, memory_count)
  else (cal (f_TR_requireKey street_houses p2 p3) (fun o_10 => if ¬ o_10 = 0 then some (o_10, 0, street_records_codes, street_records_houses, street_records_keys, street_records_parents, street_records_wrongBits, street_records_count, street_recordOfKey, street_x, memory_states, memory_oldest, memory_count)
  else (if ¬ p0 = p2 then (f_TR_teach_24 street_records_codes street_records_houses street_records_keys street_records_parents street_records_wrongBits street_records_count street_devices_houses street_devices_codes street_devices_tolerances street_devices_count street_devices_on street_recordOfKey street_houses street_noise street_reach street_x memory_states memory_oldest memory_count p0 p1 p2 p3)
  else (if p1 = p3 then (f_TR_teach_29 street_records_codes street_records_houses street_records_keys street_records_parents street_records_wrongBits street_records_count street_devices_houses street_devices_codes street_devices_tolerances street_devices_count street_devices_on street_recordOfKey street_houses street_noise street_reach street_x memory_states memory_oldest memory_count p0 p1 p2 p3 0)
  else (f_TR_teach_24 street_records_codes street_records_houses street_records_keys street_records_parents street_records_wrongBits street_records_count street_devices_houses street_devices_codes street_devices_tolerances street_devices_count street_devices_on street_recordOfKey street_houses street_noise street_reach street_x memory_states memory_oldest memory_count p0 p1 p2 p3))))))
def f_TR_erase (street_records_codes : Nat → Int32) (street_records_houses : Nat → Int32) (street_records_keys : Nat → Int32) (street_records_parents : Nat → Int32) (street_records_wrongBits : Nat → Int32) (street_records_count : Int32) (street_devices_houses : Nat → Int32) (street_devices_codes : Nat → Int32) (street_devices_tolerances : Nat → Int32) (street_devices_count : Int32) (street_devices_on : Int32) (street_recordOfKey : Nat → Int32) (street_houses : Int32) (street_noise : Int32) (street_reach : Int32) (street_x : Int64) (memory_states : Nat → SV) (memory_oldest : Int32) (memory_count : Int32) (p0 : Int32) (p1 : Int32) : Option (Nat × Int32 × (Nat → Int32) × (Nat → SV) × Int32 × Int32) :=
  cal (f_TR_requireKey street_houses p0 p1) (fun o_3 => if ¬ o_3 = 0 then some (o_3, 0, street_recordOfKey, memory_states, memory_oldest, memory_count)
  else (cal (f_Mem_remember memory_states memory_oldest memory_count street_records_codes street_records_houses street_records_keys street_records_parents street_records_wrongBits street_records_count street_devices_houses street_devices_codes street_devices_tolerances street_devices_count street_devices_on street_recordOfKey street_houses street_noise street_reach street_x) (fun o_14 => cal (f_Str_eraseKey street_records_codes street_records_count street_recordOfKey street_houses p0 p1) (fun o_23 => some (0, o_23.1, o_23.2, o_14.1, o_14.2.1, o_14.2.2)))))
def f_TR_press (street_records_codes : Nat → Int32) (street_records_houses : Nat → Int32) (street_records_keys : Nat → Int32) (street_records_parents : Nat → Int32) (street_records_wrongBits : Nat → Int32) (street_records_count : Int32) (street_devices_houses : Nat → Int32) (street_devices_codes : Nat → Int32) (street_devices_tolerances : Nat → Int32) (street_devices_count : Int32) (street_devices_on : Int32) (street_recordOfKey : Nat → Int32) (street_houses : Int32) (street_noise : Int32) (street_reach : Int32) (street_x : Int64) (memory_states : Nat → SV) (memory_oldest : Int32) (memory_count : Int32) (p0 : Int32) (p1 : Int32) : Option (Nat × Int32 × Int32 × (Nat → SV) × Int32 × Int32) :=
  cal (f_TR_requireKey street_houses p0 p1) (fun o_3 => if ¬ o_3 = 0 then some (o_3, 0, street_devices_on, memory_states, memory_oldest, memory_count)
  else (cal (f_Str_hasCode street_recordOfKey street_houses p0 p1) (fun o_12 => cal (f_TR_requireState o_12) (fun o_15 => if ¬ o_15 = 0 then some (o_15, 0, street_devices_on, memory_states, memory_oldest, memory_count)
  else (cal (f_Mem_remember memory_states memory_oldest memory_count street_records_codes street_records_houses street_records_keys street_records_parents street_records_wrongBits street_records_count street_devices_houses street_devices_codes street_devices_tolerances street_devices_count street_devices_on street_recordOfKey street_houses street_noise street_reach street_x) (fun o_26 => cal (f_Str_pressKey street_records_codes street_records_count street_devices_houses street_devices_codes street_devices_tolerances street_devices_count street_devices_on street_recordOfKey street_houses street_reach p0 p1) (fun o_35 => some (0, o_35.1, o_35.2, o_26.1, o_26.2.1, o_26.2.2))))))))
def f_TR_addDevice_30 (street_records_codes : Nat → Int32) (street_records_houses : Nat → Int32) (street_records_keys : Nat → Int32) (street_records_parents : Nat → Int32) (street_records_wrongBits : Nat → Int32) (street_records_count : Int32) (street_devices_houses : Nat → Int32) (street_devices_codes : Nat → Int32) (street_devices_tolerances : Nat → Int32) (street_devices_count : Int32) (street_devices_on : Int32) (street_recordOfKey : Nat → Int32) (street_houses : Int32) (street_noise : Int32) (street_reach : Int32) (street_x : Int64) (memory_states : Nat → SV) (memory_oldest : Int32) (memory_count : Int32) (p0 : Int32) (p1 : Int32) (p2 : Int32) (s0_30 : Int32) : Option (Nat × Int32 × (Nat → Int32) × (Nat → Int32) × (Nat → Int32) × Int32 × (Nat → SV) × Int32 × Int32) :=
  cal (f_TR_requireArgument s0_30) (fun o_30 => if ¬ o_30 = 0 then some (o_30, 0, street_devices_houses, street_devices_codes, street_devices_tolerances, street_devices_count, memory_states, memory_oldest, memory_count)
  else (cal (f_Dev_hasRoom street_devices_count) (fun o_40 => cal (f_TR_requireState o_40) (fun o_43 => if ¬ o_43 = 0 then some (o_43, 0, street_devices_houses, street_devices_codes, street_devices_tolerances, street_devices_count, memory_states, memory_oldest, memory_count)
  else (cal (f_Mem_remember memory_states memory_oldest memory_count street_records_codes street_records_houses street_records_keys street_records_parents street_records_wrongBits street_records_count street_devices_houses street_devices_codes street_devices_tolerances street_devices_count street_devices_on street_recordOfKey street_houses street_noise street_reach street_x) (fun o_54 => cal (f_Dev_add street_devices_houses street_devices_codes street_devices_tolerances street_devices_count p0 p1 p2) (fun o_67 => some (0, o_67.1, o_67.2.1, o_67.2.2.1, o_67.2.2.2.1, o_67.2.2.2.2, o_54.1, o_54.2.1, o_54.2.2))))))))
def f_TR_addDevice_29 (street_records_codes : Nat → Int32) (street_records_houses : Nat → Int32) (street_records_keys : Nat → Int32) (street_records_parents : Nat → Int32) (street_records_wrongBits : Nat → Int32) (street_records_count : Int32) (street_devices_houses : Nat → Int32) (street_devices_codes : Nat → Int32) (street_devices_tolerances : Nat → Int32) (street_devices_count : Int32) (street_devices_on : Int32) (street_recordOfKey : Nat → Int32) (street_houses : Int32) (street_noise : Int32) (street_reach : Int32) (street_x : Int64) (memory_states : Nat → SV) (memory_oldest : Int32) (memory_count : Int32) (p0 : Int32) (p1 : Int32) (p2 : Int32) : Option (Nat × Int32 × (Nat → Int32) × (Nat → Int32) × (Nat → Int32) × Int32 × (Nat → SV) × Int32 × Int32) :=
  f_TR_addDevice_30 street_records_codes street_records_houses street_records_keys street_records_parents street_records_wrongBits street_records_count street_devices_houses street_devices_codes street_devices_tolerances street_devices_count street_devices_on street_recordOfKey street_houses street_noise street_reach street_x memory_states memory_oldest memory_count p0 p1 p2 0
def f_TR_addDevice (street_records_codes : Nat → Int32) (street_records_houses : Nat → Int32) (street_records_keys : Nat → Int32) (street_records_parents : Nat → Int32) (street_records_wrongBits : Nat → Int32) (street_records_count : Int32) (street_devices_houses : Nat → Int32) (street_devices_codes : Nat → Int32) (street_devices_tolerances : Nat → Int32) (street_devices_count : Int32) (street_devices_on : Int32) (street_recordOfKey : Nat → Int32) (street_houses : Int32) (street_noise : Int32) (street_reach : Int32) (street_x : Int64) (memory_states : Nat → SV) (memory_oldest : Int32) (memory_count : Int32) (p0 : Int32) (p1 : Int32) (p2 : Int32) : Option (Nat × Int32 × (Nat → Int32) × (Nat → Int32) × (Nat → Int32) × Int32 × (Nat → SV) × Int32 × Int32) :=
  cal (f_Str_hasHouse street_houses p0) (fun o_5 => cal (f_TR_requirePlace o_5) (fun o_8 => if ¬ o_8 = 0 then some (o_8, 0, street_devices_houses, street_devices_codes, street_devices_tolerances, street_devices_count, memory_states, memory_oldest, memory_count)
  else (cal (f_TR_isCode p1) (fun o_12 => if o_12 = 0 then (f_TR_addDevice_29 street_records_codes street_records_houses street_records_keys street_records_parents street_records_wrongBits street_records_count street_devices_houses street_devices_codes street_devices_tolerances street_devices_count street_devices_on street_recordOfKey street_houses street_noise street_reach street_x memory_states memory_oldest memory_count p0 p1 p2)
  else (cal (f_TR_isTolerance p2) (fun o_19 => if o_19 = 0 then (f_TR_addDevice_29 street_records_codes street_records_houses street_records_keys street_records_parents street_records_wrongBits street_records_count street_devices_houses street_devices_codes street_devices_tolerances street_devices_count street_devices_on street_recordOfKey street_houses street_noise street_reach street_x memory_states memory_oldest memory_count p0 p1 p2)
  else (f_TR_addDevice_30 street_records_codes street_records_houses street_records_keys street_records_parents street_records_wrongBits street_records_count street_devices_houses street_devices_codes street_devices_tolerances street_devices_count street_devices_on street_recordOfKey street_houses street_noise street_reach street_x memory_states memory_oldest memory_count p0 p1 p2 1)))))))
def f_TR_setTolerance (street_records_codes : Nat → Int32) (street_records_houses : Nat → Int32) (street_records_keys : Nat → Int32) (street_records_parents : Nat → Int32) (street_records_wrongBits : Nat → Int32) (street_records_count : Int32) (street_devices_houses : Nat → Int32) (street_devices_codes : Nat → Int32) (street_devices_tolerances : Nat → Int32) (street_devices_count : Int32) (street_devices_on : Int32) (street_recordOfKey : Nat → Int32) (street_houses : Int32) (street_noise : Int32) (street_reach : Int32) (street_x : Int64) (memory_states : Nat → SV) (memory_oldest : Int32) (memory_count : Int32) (p0 : Int32) (p1 : Int32) : Option (Nat × Int32 × (Nat → Int32) × (Nat → SV) × Int32 × Int32) :=
  cal (f_Dev_has street_devices_count p0) (fun o_8 => cal (f_TR_requirePlace o_8) (fun o_11 => if ¬ o_11 = 0 then some (o_11, 0, street_devices_tolerances, memory_states, memory_oldest, memory_count)
  else (cal (f_TR_isTolerance p1) (fun o_15 => cal (f_TR_requireArgument o_15) (fun o_18 => if ¬ o_18 = 0 then some (o_18, 0, street_devices_tolerances, memory_states, memory_oldest, memory_count)
  else (cal (f_Mem_remember memory_states memory_oldest memory_count street_records_codes street_records_houses street_records_keys street_records_parents street_records_wrongBits street_records_count street_devices_houses street_devices_codes street_devices_tolerances street_devices_count street_devices_on street_recordOfKey street_houses street_noise street_reach street_x) (fun o_29 => cal (f_Dev_changeTolerance street_devices_tolerances street_devices_count p0 p1) (fun o_41 => some (0, o_41.1, o_41.2, o_29.1, o_29.2.1, o_29.2.2)))))))))
def f_TR_set (street_records_codes : Nat → Int32) (street_records_houses : Nat → Int32) (street_records_keys : Nat → Int32) (street_records_parents : Nat → Int32) (street_records_wrongBits : Nat → Int32) (street_records_count : Int32) (street_devices_houses : Nat → Int32) (street_devices_codes : Nat → Int32) (street_devices_tolerances : Nat → Int32) (street_devices_count : Int32) (street_devices_on : Int32) (street_recordOfKey : Nat → Int32) (street_houses : Int32) (street_noise : Int32) (street_reach : Int32) (street_x : Int64) (memory_states : Nat → SV) (memory_oldest : Int32) (memory_count : Int32) (p0 : Int32) (p1 : Int32) : Option (Nat × Int32 × Int32 × Int32 × (Nat → SV) × Int32 × Int32) :=
  cal (f_TR_isSetting p0 p1) (fun o_2 => cal (f_TR_requireArgument o_2) (fun o_5 => if ¬ o_5 = 0 then some (o_5, 0, street_noise, street_reach, memory_states, memory_oldest, memory_count)
  else (cal (f_Mem_remember memory_states memory_oldest memory_count street_records_codes street_records_houses street_records_keys street_records_parents street_records_wrongBits street_records_count street_devices_houses street_devices_codes street_devices_tolerances street_devices_count street_devices_on street_recordOfKey street_houses street_noise street_reach street_x) (fun o_16 => cal (f_Str_changeSetting street_noise street_reach p0 p1) (fun o_25 => some (0, o_25.1, o_25.2.1, o_25.2.2, o_16.1, o_16.2.1, o_16.2.2))))))
def f_TR_undo_15 (street_records_codes : Nat → Int32) (street_records_houses : Nat → Int32) (street_records_keys : Nat → Int32) (street_records_parents : Nat → Int32) (street_records_wrongBits : Nat → Int32) (street_records_count : Int32) (street_devices_houses : Nat → Int32) (street_devices_codes : Nat → Int32) (street_devices_tolerances : Nat → Int32) (street_devices_count : Int32) (street_devices_on : Int32) (street_recordOfKey : Nat → Int32) (street_houses : Int32) (street_noise : Int32) (street_reach : Int32) (street_x : Int64) (memory_states : Nat → SV) (memory_oldest : Int32) (memory_count : Int32) (s0_15 : Int32) : Option (Nat × Int32 × (Nat → Int32) × (Nat → Int32) × (Nat → Int32) × (Nat → Int32) × (Nat → Int32) × Int32 × (Nat → Int32) × (Nat → Int32) × (Nat → Int32) × Int32 × Int32 × (Nat → Int32) × Int32 × Int32 × Int32 × Int64 × Int32) :=
  cal (f_TR_requireState s0_15) (fun o_15 => if ¬ o_15 = 0 then some (o_15, 0, street_records_codes, street_records_houses, street_records_keys, street_records_parents, street_records_wrongBits, street_records_count, street_devices_houses, street_devices_codes, street_devices_tolerances, street_devices_count, street_devices_on, street_recordOfKey, street_houses, street_noise, street_reach, street_x, memory_count)
  else (cal (f_Mem_takeBack memory_states memory_oldest memory_count street_records_codes street_records_houses street_records_keys street_records_parents street_records_wrongBits street_records_count street_devices_houses street_devices_codes street_devices_tolerances street_devices_count street_devices_on street_recordOfKey street_houses street_noise street_reach street_x) (fun o_26 => some (0, o_26.1, o_26.2.2.1, o_26.2.2.2.1, o_26.2.2.2.2.1, o_26.2.2.2.2.2.1, o_26.2.2.2.2.2.2.1, o_26.2.2.2.2.2.2.2.1, o_26.2.2.2.2.2.2.2.2.1, o_26.2.2.2.2.2.2.2.2.2.1, o_26.2.2.2.2.2.2.2.2.2.2.1, o_26.2.2.2.2.2.2.2.2.2.2.2.1, o_26.2.2.2.2.2.2.2.2.2.2.2.2.1, o_26.2.2.2.2.2.2.2.2.2.2.2.2.2.1, o_26.2.2.2.2.2.2.2.2.2.2.2.2.2.2.1, o_26.2.2.2.2.2.2.2.2.2.2.2.2.2.2.2.1, o_26.2.2.2.2.2.2.2.2.2.2.2.2.2.2.2.2.1, o_26.2.2.2.2.2.2.2.2.2.2.2.2.2.2.2.2.2, o_26.2.1))))
def f_TR_undo (street_records_codes : Nat → Int32) (street_records_houses : Nat → Int32) (street_records_keys : Nat → Int32) (street_records_parents : Nat → Int32) (street_records_wrongBits : Nat → Int32) (street_records_count : Int32) (street_devices_houses : Nat → Int32) (street_devices_codes : Nat → Int32) (street_devices_tolerances : Nat → Int32) (street_devices_count : Int32) (street_devices_on : Int32) (street_recordOfKey : Nat → Int32) (street_houses : Int32) (street_noise : Int32) (street_reach : Int32) (street_x : Int64) (memory_states : Nat → SV) (memory_oldest : Int32) (memory_count : Int32) : Option (Nat × Int32 × (Nat → Int32) × (Nat → Int32) × (Nat → Int32) × (Nat → Int32) × (Nat → Int32) × Int32 × (Nat → Int32) × (Nat → Int32) × (Nat → Int32) × Int32 × Int32 × (Nat → Int32) × Int32 × Int32 × Int32 × Int64 × Int32) :=
  cal (f_Mem_count memory_count) (fun o_4 => if o_4 ≤ 0 then (f_TR_undo_15 street_records_codes street_records_houses street_records_keys street_records_parents street_records_wrongBits street_records_count street_devices_houses street_devices_codes street_devices_tolerances street_devices_count street_devices_on street_recordOfKey street_houses street_noise street_reach street_x memory_states memory_oldest memory_count 0)
  else (f_TR_undo_15 street_records_codes street_records_houses street_records_keys street_records_parents street_records_wrongBits street_records_count street_devices_houses street_devices_codes street_devices_tolerances street_devices_count street_devices_on street_recordOfKey street_houses street_noise street_reach street_x memory_states memory_oldest memory_count 1))
def f_TR_wouldBe (street_records_codes : Nat → Int32) (street_records_count : Int32) (street_recordOfKey : Nat → Int32) (street_houses : Int32) (street_noise : Int32) (street_x : Int64) (p0 : Int32) (p1 : Int32) (p2 : Int32) : Option (Nat × Int32) :=
  cal (f_TR_requireKey street_houses p0 p1) (fun o_3 => if ¬ o_3 = 0 then some (o_3, 0)
  else (cal (f_Str_hasHouse street_houses p2) (fun o_11 => cal (f_TR_requirePlace o_11) (fun o_14 => if ¬ o_14 = 0 then some (o_14, 0)
  else (cal (f_Str_codeIfTaught street_records_codes street_records_count street_recordOfKey street_houses street_noise street_x p0 p1 p2) (fun o_24 => some (0, o_24)))))))
def f_TR_handed (street_records_codes : Nat → Int32) (street_records_count : Int32) (street_recordOfKey : Nat → Int32) (street_houses : Int32) (street_noise : Int32) (street_x : Int64) (p0 : Int32) (p1 : Int32) (p2 : Int32) : Option (Nat × Int32) :=
  cal (f_TR_requireKey street_houses p0 p1) (fun o_3 => if ¬ o_3 = 0 then some (o_3, 0)
  else (cal (f_Str_hasHouse street_houses p2) (fun o_11 => cal (f_TR_requirePlace o_11) (fun o_14 => if ¬ o_14 = 0 then some (o_14, 0)
  else (cal (f_Str_codeIfHanded street_records_codes street_records_count street_recordOfKey street_houses street_noise street_x p0 p1 p2) (fun o_24 => some (0, o_24)))))))
def f_TR_bestTeacher (street_records_codes : Nat → Int32) (street_records_count : Int32) (street_devices_codes : Nat → Int32) (street_devices_count : Int32) (street_recordOfKey : Nat → Int32) (street_houses : Int32) (street_noise : Int32) (street_x : Int64) (p0 : Int32) (p1 : Int32) : Option (Nat × Int32) :=
  cal (f_Str_hasHouse street_houses p0) (fun o_5 => cal (f_TR_requirePlace o_5) (fun o_8 => if ¬ o_8 = 0 then some (o_8, 0)
  else (cal (f_Dev_has street_devices_count p1) (fun o_19 => cal (f_TR_requirePlace o_19) (fun o_22 => if ¬ o_22 = 0 then some (o_22, 0)
  else (cal (f_Dev_codeOf street_devices_codes street_devices_count p1) (fun o_37 => cal (f_Str_teacherNearestTo street_records_codes street_records_count street_recordOfKey street_houses street_noise street_x o_37 p0) (fun o_41 => some (0, o_41)))))))))
def f_TR_leastTolerance (street_records_codes : Nat → Int32) (street_records_parents : Nat → Int32) (street_records_count : Int32) (street_devices_codes : Nat → Int32) (street_devices_count : Int32) (street_recordOfKey : Nat → Int32) (p0 : Int32) : Option (Nat × Int32) :=
  cal (f_Dev_has street_devices_count p0) (fun o_8 => cal (f_TR_requirePlace o_8) (fun o_11 => if ¬ o_11 = 0 then some (o_11, 0)
  else (cal (f_Dev_codeOf street_devices_codes street_devices_count p0) (fun o_26 => cal (f_Str_farthestFrom street_records_codes street_records_parents street_records_count street_recordOfKey o_26) (fun o_29 => cal (f_TR_isTolerance o_29) (fun o_34 => if o_34 = 0 then (some (0, (-9)))
  else (some (0, o_29))))))))
def f_TR_runScript_48 (p0 : Int32) (p1 : Int64) (o_42 : (Nat → Int32) × (Nat → Int32) × (Nat → Int32) × (Nat → Int32) × (Nat → Int32) × Int32 × (Nat → Int32) × (Nat → Int32) × (Nat → Int32) × Int32 × Int32 × (Nat → Int32) × Int32 × Int32 × Int32 × Int64) (x4_48 : Int32) (spare_records_codes_48 : Nat → Int32) (spare_records_houses_48 : Nat → Int32) (spare_records_keys_48 : Nat → Int32) (spare_records_parents_48 : Nat → Int32) (spare_records_wrongBits_48 : Nat → Int32) (spare_records_count_48 : Int32) (spare_devices_tolerances_48 : Nat → Int32) (spare_devices_on_48 : Int32) (spare_recordOfKey_48 : Nat → Int32) (spare_noise_48 : Int32) (spare_reach_48 : Int32) (spare_x_48 : Int64) (k_48 : Int32 → (Nat → Int32) → (Nat → Int32) → (Nat → Int32) → (Nat → Int32) → (Nat → Int32) → Int32 → (Nat → Int32) → Int32 → (Nat → Int32) → Int32 → Int32 → Int64 → Option (Nat × Int32 × (Nat → Int32) × (Nat → Int32) × (Nat → Int32) × (Nat → Int32) × (Nat → Int32) × Int32 × (Nat → Int32) × (Nat → Int32) × (Nat → Int32) × Int32 × Int32 × (Nat → Int32) × Int32 × Int32 × Int32 × Int64)) : Option (Nat × Int32 × (Nat → Int32) × (Nat → Int32) × (Nat → Int32) × (Nat → Int32) × (Nat → Int32) × Int32 × (Nat → Int32) × (Nat → Int32) × (Nat → Int32) × Int32 × Int32 × (Nat → Int32) × Int32 × Int32 × Int32 × Int64) :=
  if p0 ≤ x4_48 then (some (0, (-9), spare_records_codes_48, spare_records_houses_48, spare_records_keys_48, spare_records_parents_48, spare_records_wrongBits_48, spare_records_count_48, o_42.2.2.2.2.2.2.1, o_42.2.2.2.2.2.2.2.1, spare_devices_tolerances_48, o_42.2.2.2.2.2.2.2.2.2.1, spare_devices_on_48, spare_recordOfKey_48, o_42.2.2.2.2.2.2.2.2.2.2.2.2.1, spare_noise_48, spare_reach_48, spare_x_48))
  else (cal (f_Scr_groupAt p1 ((p0 - 1) - x4_48)) (fun o_65 => cal (f_Scr_succeeds spare_records_codes_48 spare_records_houses_48 spare_records_keys_48 spare_records_parents_48 spare_records_wrongBits_48 spare_records_count_48 o_42.2.2.2.2.2.2.1 o_42.2.2.2.2.2.2.2.1 spare_devices_tolerances_48 o_42.2.2.2.2.2.2.2.2.2.1 spare_devices_on_48 spare_recordOfKey_48 o_42.2.2.2.2.2.2.2.2.2.2.2.2.1 spare_noise_48 spare_reach_48 spare_x_48 o_65) (fun o_68 => if ¬ o_68.1 = 0 then (k_48 (x4_48 + 1) o_68.2.1 o_68.2.2.1 o_68.2.2.2.1 o_68.2.2.2.2.1 o_68.2.2.2.2.2.1 o_68.2.2.2.2.2.2.1 o_68.2.2.2.2.2.2.2.1 o_68.2.2.2.2.2.2.2.2.1 o_68.2.2.2.2.2.2.2.2.2.1 o_68.2.2.2.2.2.2.2.2.2.2.1 o_68.2.2.2.2.2.2.2.2.2.2.2.1 o_68.2.2.2.2.2.2.2.2.2.2.2.2)
  else (some (0, x4_48, o_68.2.1, o_68.2.2.1, o_68.2.2.2.1, o_68.2.2.2.2.1, o_68.2.2.2.2.2.1, o_68.2.2.2.2.2.2.1, o_42.2.2.2.2.2.2.1, o_42.2.2.2.2.2.2.2.1, o_68.2.2.2.2.2.2.2.1, o_42.2.2.2.2.2.2.2.2.2.1, o_68.2.2.2.2.2.2.2.2.1, o_68.2.2.2.2.2.2.2.2.2.1, o_42.2.2.2.2.2.2.2.2.2.2.2.2.1, o_68.2.2.2.2.2.2.2.2.2.2.1, o_68.2.2.2.2.2.2.2.2.2.2.2.1, o_68.2.2.2.2.2.2.2.2.2.2.2.2)))))
def f_TR_runScript_31 (street_records_codes : Nat → Int32) (street_records_houses : Nat → Int32) (street_records_keys : Nat → Int32) (street_records_parents : Nat → Int32) (street_records_wrongBits : Nat → Int32) (street_records_count : Int32) (street_devices_houses : Nat → Int32) (street_devices_codes : Nat → Int32) (street_devices_tolerances : Nat → Int32) (street_devices_count : Int32) (street_devices_on : Int32) (street_recordOfKey : Nat → Int32) (street_houses : Int32) (street_noise : Int32) (street_reach : Int32) (street_x : Int64) (spare_records_codes : Nat → Int32) (spare_records_houses : Nat → Int32) (spare_records_keys : Nat → Int32) (spare_records_parents : Nat → Int32) (spare_records_wrongBits : Nat → Int32) (spare_records_count : Int32) (spare_devices_houses : Nat → Int32) (spare_devices_codes : Nat → Int32) (spare_devices_tolerances : Nat → Int32) (spare_devices_count : Int32) (spare_devices_on : Int32) (spare_recordOfKey : Nat → Int32) (spare_houses : Int32) (spare_noise : Int32) (spare_reach : Int32) (spare_x : Int64) (p0 : Int32) (p1 : Int64) (s0_31 : Int32) : Option (Nat × Int32 × (Nat → Int32) × (Nat → Int32) × (Nat → Int32) × (Nat → Int32) × (Nat → Int32) × Int32 × (Nat → Int32) × (Nat → Int32) × (Nat → Int32) × Int32 × Int32 × (Nat → Int32) × Int32 × Int32 × Int32 × Int64) :=
  cal (f_TR_requireArgument s0_31) (fun o_31 => if ¬ o_31 = 0 then some (o_31, 0, spare_records_codes, spare_records_houses, spare_records_keys, spare_records_parents, spare_records_wrongBits, spare_records_count, spare_devices_houses, spare_devices_codes, spare_devices_tolerances, spare_devices_count, spare_devices_on, spare_recordOfKey, spare_houses, spare_noise, spare_reach, spare_x)
  else (cal (f_Str_copyFrom spare_records_codes spare_records_houses spare_records_keys spare_records_parents spare_records_wrongBits spare_records_count spare_devices_houses spare_devices_codes spare_devices_tolerances spare_devices_count spare_devices_on spare_recordOfKey spare_houses spare_noise spare_reach spare_x street_records_codes street_records_houses street_records_keys street_records_parents street_records_wrongBits street_records_count street_devices_houses street_devices_codes street_devices_tolerances street_devices_count street_devices_on street_recordOfKey street_houses street_noise street_reach street_x) (fun o_42 => rl13 (f_TR_runScript_48 p0 p1 o_42) FUEL 0 o_42.1 o_42.2.1 o_42.2.2.1 o_42.2.2.2.1 o_42.2.2.2.2.1 o_42.2.2.2.2.2.1 o_42.2.2.2.2.2.2.2.2.1 o_42.2.2.2.2.2.2.2.2.2.2.1 o_42.2.2.2.2.2.2.2.2.2.2.2.1 o_42.2.2.2.2.2.2.2.2.2.2.2.2.2.1 o_42.2.2.2.2.2.2.2.2.2.2.2.2.2.2.1 o_42.2.2.2.2.2.2.2.2.2.2.2.2.2.2.2)))
def f_TR_runScript_30 (street_records_codes : Nat → Int32) (street_records_houses : Nat → Int32) (street_records_keys : Nat → Int32) (street_records_parents : Nat → Int32) (street_records_wrongBits : Nat → Int32) (street_records_count : Int32) (street_devices_houses : Nat → Int32) (street_devices_codes : Nat → Int32) (street_devices_tolerances : Nat → Int32) (street_devices_count : Int32) (street_devices_on : Int32) (street_recordOfKey : Nat → Int32) (street_houses : Int32) (street_noise : Int32) (street_reach : Int32) (street_x : Int64) (spare_records_codes : Nat → Int32) (spare_records_houses : Nat → Int32) (spare_records_keys : Nat → Int32) (spare_records_parents : Nat → Int32) (spare_records_wrongBits : Nat → Int32) (spare_records_count : Int32) (spare_devices_houses : Nat → Int32) (spare_devices_codes : Nat → Int32) (spare_devices_tolerances : Nat → Int32) (spare_devices_count : Int32) (spare_devices_on : Int32) (spare_recordOfKey : Nat → Int32) (spare_houses : Int32) (spare_noise : Int32) (spare_reach : Int32) (spare_x : Int64) (p0 : Int32) (p1 : Int64) : Option (Nat × Int32 × (Nat → Int32) × (Nat → Int32) × (Nat → Int32) × (Nat → Int32) × (Nat → Int32) × Int32 × (Nat → Int32) × (Nat → Int32) × (Nat → Int32) × Int32 × Int32 × (Nat → Int32) × Int32 × Int32 × Int32 × Int64) :=
  f_TR_runScript_31 street_records_codes street_records_houses street_records_keys street_records_parents street_records_wrongBits street_records_count street_devices_houses street_devices_codes street_devices_tolerances street_devices_count street_devices_on street_recordOfKey street_houses street_noise street_reach street_x spare_records_codes spare_records_houses spare_records_keys spare_records_parents spare_records_wrongBits spare_records_count spare_devices_houses spare_devices_codes spare_devices_tolerances spare_devices_count spare_devices_on spare_recordOfKey spare_houses spare_noise spare_reach spare_x p0 p1 0
def f_TR_runScript (street_records_codes : Nat → Int32) (street_records_houses : Nat → Int32) (street_records_keys : Nat → Int32) (street_records_parents : Nat → Int32) (street_records_wrongBits : Nat → Int32) (street_records_count : Int32) (street_devices_houses : Nat → Int32) (street_devices_codes : Nat → Int32) (street_devices_tolerances : Nat → Int32) (street_devices_count : Int32) (street_devices_on : Int32) (street_recordOfKey : Nat → Int32) (street_houses : Int32) (street_noise : Int32) (street_reach : Int32) (street_x : Int64) (spare_records_codes : Nat → Int32) (spare_records_houses : Nat → Int32) (spare_records_keys : Nat → Int32) (spare_records_parents : Nat → Int32) (spare_records_wrongBits : Nat → Int32) (spare_records_count : Int32) (spare_devices_houses : Nat → Int32) (spare_devices_codes : Nat → Int32) (spare_devices_tolerances : Nat → Int32) (spare_devices_count : Int32) (spare_devices_on : Int32) (spare_recordOfKey : Nat → Int32) (spare_houses : Int32) (spare_noise : Int32) (spare_reach : Int32) (spare_x : Int64) (p0 : Int32) (p1 : Int64) : Option (Nat × Int32 × (Nat → Int32) × (Nat → Int32) × (Nat → Int32) × (Nat → Int32) × (Nat → Int32) × Int32 × (Nat → Int32) × (Nat → Int32) × (Nat → Int32) × Int32 × Int32 × (Nat → Int32) × Int32 × Int32 × Int32 × Int64) :=
  cal (f_TR_isWithin p0 1 3) (fun o_3 => cal (f_TR_requireArgument o_3) (fun o_6 => if ¬ o_6 = 0 then some (o_6, 0, spare_records_codes, spare_records_houses, spare_records_keys, spare_records_parents, spare_records_wrongBits, spare_records_count, spare_devices_houses, spare_devices_codes, spare_devices_tolerances, spare_devices_count, spare_devices_on, spare_recordOfKey, spare_houses, spare_noise, spare_reach, spare_x)
  else (if (lg_cmp p1 0) < 0 then (f_TR_runScript_30 street_records_codes street_records_houses street_records_keys street_records_parents street_records_wrongBits street_records_count street_devices_houses street_devices_codes street_devices_tolerances street_devices_count street_devices_on street_recordOfKey street_houses street_noise street_reach street_x spare_records_codes spare_records_houses spare_records_keys spare_records_parents spare_records_wrongBits spare_records_count spare_devices_houses spare_devices_codes spare_devices_tolerances spare_devices_count spare_devices_on spare_recordOfKey spare_houses spare_noise spare_reach spare_x p0 p1)
  else (cal (f_TR_powerOfTen (5 * p0)) (fun o_19 => if 0 ≤ (lg_cmp p1 o_19) then (f_TR_runScript_30 street_records_codes street_records_houses street_records_keys street_records_parents street_records_wrongBits street_records_count street_devices_houses street_devices_codes street_devices_tolerances street_devices_count street_devices_on street_recordOfKey street_houses street_noise street_reach street_x spare_records_codes spare_records_houses spare_records_keys spare_records_parents spare_records_wrongBits spare_records_count spare_devices_houses spare_devices_codes spare_devices_tolerances spare_devices_count spare_devices_on spare_recordOfKey spare_houses spare_noise spare_reach spare_x p0 p1)
  else (f_TR_runScript_31 street_records_codes street_records_houses street_records_keys street_records_parents street_records_wrongBits street_records_count street_devices_houses street_devices_codes street_devices_tolerances street_devices_count street_devices_on street_recordOfKey street_houses street_noise street_reach street_x spare_records_codes spare_records_houses spare_records_keys spare_records_parents spare_records_wrongBits spare_records_count spare_devices_houses spare_devices_codes spare_devices_tolerances spare_devices_count spare_devices_on spare_recordOfKey spare_houses spare_noise spare_reach spare_x p0 p1 1))))))
def f_TR_simulate (street_records_codes : Nat → Int32) (street_records_count : Int32) (street_recordOfKey : Nat → Int32) (street_houses : Int32) (street_noise : Int32) (p0 : Int32) (p1 : Int32) (p2 : Int64) (p3 : Int32) : Option (Nat × Int32) :=
  cal (f_TR_requireKey street_houses p0 p1) (fun o_3 => if ¬ o_3 = 0 then some (o_3, 0)
  else (cal (f_TR_isWithin p3 1 60) (fun o_11 => cal (f_TR_requireArgument o_11) (fun o_14 => if ¬ o_14 = 0 then some (o_14, 0)
  else (cal (f_Str_codeOf street_records_codes street_records_count street_recordOfKey street_houses p0 p1) (fun o_23 => if ¬ o_23 = ((-9)) then (cal (f_Str_simulateWay street_houses street_noise p0 o_23 p2 p3) (fun o_48 => some (0, o_48)))
  else (some (0, (-9)))))))))
def f_TR_save (street_records_codes : Nat → Int32) (street_records_houses : Nat → Int32) (street_records_keys : Nat → Int32) (street_records_parents : Nat → Int32) (street_records_wrongBits : Nat → Int32) (street_records_count : Int32) (street_devices_houses : Nat → Int32) (street_devices_codes : Nat → Int32) (street_devices_tolerances : Nat → Int32) (street_devices_count : Int32) (street_devices_on : Int32) (street_recordOfKey : Nat → Int32) (street_houses : Int32) (street_noise : Int32) (street_reach : Int32) (street_x : Int64) (slots_states : Nat → SV) (slots_filled : Int32) (p0 : Int32) : Option (Nat × Int32 × (Nat → SV) × Int32) :=
  cal (f_Slo_has p0) (fun o_5 => cal (f_TR_requirePlace o_5) (fun o_8 => if ¬ o_8 = 0 then some (o_8, 0, slots_states, slots_filled)
  else (cal (f_Slo_keep slots_states slots_filled street_records_codes street_records_houses street_records_keys street_records_parents street_records_wrongBits street_records_count street_devices_houses street_devices_codes street_devices_tolerances street_devices_count street_devices_on street_recordOfKey street_houses street_noise street_reach street_x p0) (fun o_20 => cal (f_Rec_count street_records_count) (fun o_30 => some (0, o_30, o_20.1, o_20.2))))))
def f_TR_restore (street_records_codes : Nat → Int32) (street_records_houses : Nat → Int32) (street_records_keys : Nat → Int32) (street_records_parents : Nat → Int32) (street_records_wrongBits : Nat → Int32) (street_records_count : Int32) (street_devices_houses : Nat → Int32) (street_devices_codes : Nat → Int32) (street_devices_tolerances : Nat → Int32) (street_devices_count : Int32) (street_devices_on : Int32) (street_recordOfKey : Nat → Int32) (street_houses : Int32) (street_noise : Int32) (street_reach : Int32) (street_x : Int64) (memory_count : Int32) (slots_states : Nat → SV) (slots_filled : Int32) (p0 : Int32) : Option (Nat × Int32 × (Nat → Int32) × (Nat → Int32) × (Nat → Int32) × (Nat → Int32) × (Nat → Int32) × Int32 × (Nat → Int32) × (Nat → Int32) × (Nat → Int32) × Int32 × Int32 × (Nat → Int32) × Int32 × Int32 × Int32 × Int64 × Int32) :=
  cal (f_Slo_has p0) (fun o_5 => cal (f_TR_requirePlace o_5) (fun o_8 => if ¬ o_8 = 0 then some (o_8, 0, street_records_codes, street_records_houses, street_records_keys, street_records_parents, street_records_wrongBits, street_records_count, street_devices_houses, street_devices_codes, street_devices_tolerances, street_devices_count, street_devices_on, street_recordOfKey, street_houses, street_noise, street_reach, street_x, memory_count)
  else (cal (f_Slo_isFilled slots_filled p0) (fun o_16 => cal (f_TR_requireState o_16) (fun o_19 => if ¬ o_19 = 0 then some (o_19, 0, street_records_codes, street_records_houses, street_records_keys, street_records_parents, street_records_wrongBits, street_records_count, street_devices_houses, street_devices_codes, street_devices_tolerances, street_devices_count, street_devices_on, street_recordOfKey, street_houses, street_noise, street_reach, street_x, memory_count)
  else (cal (f_Slo_giveBack slots_states slots_filled street_records_codes street_records_houses street_records_keys street_records_parents street_records_wrongBits street_records_count street_devices_houses street_devices_codes street_devices_tolerances street_devices_count street_devices_on street_recordOfKey street_houses street_noise street_reach street_x p0) (fun o_31 => cal (f_Mem_forgetAll memory_count) (fun o_38 => cal (f_Rec_count o_31.2.2.2.2.2.1) (fun o_48 => some (0, o_48, o_31.1, o_31.2.1, o_31.2.2.1, o_31.2.2.2.1, o_31.2.2.2.2.1, o_31.2.2.2.2.2.1, o_31.2.2.2.2.2.2.1, o_31.2.2.2.2.2.2.2.1, o_31.2.2.2.2.2.2.2.2.1, o_31.2.2.2.2.2.2.2.2.2.1, o_31.2.2.2.2.2.2.2.2.2.2.1, o_31.2.2.2.2.2.2.2.2.2.2.2.1, o_31.2.2.2.2.2.2.2.2.2.2.2.2.1, o_31.2.2.2.2.2.2.2.2.2.2.2.2.2.1, o_31.2.2.2.2.2.2.2.2.2.2.2.2.2.2.1, o_31.2.2.2.2.2.2.2.2.2.2.2.2.2.2.2, o_38))))))))))
def f_M_thrown (thrown : Int32) : Option (Int32) :=
  some (thrown)
def f_M_in (p0 : Int64) (p1 : Int64) (p2 : Int64) : Option (Int32) :=
  if (lg_cmp p0 p1) < 0 then (some (0))
  else (if 0 < (lg_cmp p0 p2) then (some (0))
  else (some (1)))
def f_M_fails (thrown : Int32) (p0 : Int32) : Option (Int32 × Int32) :=
  some (0, p0)
def f_M_anew_33 (k_2 : Int32 → (Nat → Int32) → Option ((Nat → Int32) × Int64)) (x1_33 : Int32) (s1_33 : Int32) (s2_33 : Int32) (q_33 : Nat → Int32) : Option ((Nat → Int32) × Int64) :=
  gd (¬ (s1_33 < 0 ∨ 283 ≤ (s1_33).toNatClampNeg)) (k_2 (x1_33 + 1) (upd q_33 (s1_33).toNatClampNeg s2_33))
def f_M_anew_2 (x1_2 : Int32) (q_2 : Nat → Int32) (k_2 : Int32 → (Nat → Int32) → Option ((Nat → Int32) × Int64)) : Option ((Nat → Int32) × Int64) :=
  if 283 ≤ x1_2 then (some (upd (upd (upd q_2 0 4) 3 1) 4 2, 1))
  else (cal (f_M_in (Int32.toInt64 x1_2) 5 58) (fun o_22 => if o_22 = 0 then (f_M_anew_33 k_2 x1_2 x1_2 0 q_2)
  else (f_M_anew_33 k_2 x1_2 x1_2 ((-1)) q_2)))
def f_M_anew (q : Nat → Int32) (x : Int64) : Option ((Nat → Int32) × Int64) :=
  rl2 f_M_anew_2 FUEL 0 q
def f_M_keep_2 (q : Nat → Int32) (x : Int64) (x1_2 : Int32) (spare_2 : Nat → Int32) (k_2 : Int32 → (Nat → Int32) → Option ((Nat → Int32) × Int64)) : Option ((Nat → Int32) × Int64) :=
  if 283 ≤ x1_2 then (some (spare_2, x))
  else (gd (¬ (x1_2 < 0 ∨ 283 ≤ (x1_2).toNatClampNeg)) (k_2 (x1_2 + 1) (upd spare_2 (x1_2).toNatClampNeg (q (x1_2).toNatClampNeg))))
def f_M_keep (q : Nat → Int32) (x : Int64) (spare : Nat → Int32) (spareX : Int64) : Option ((Nat → Int32) × Int64) :=
  rl2 (f_M_keep_2 q x) FUEL 0 spare
def f_M_bringBack_2 (spare : Nat → Int32) (spareX : Int64) (x1_2 : Int32) (q_2 : Nat → Int32) (k_2 : Int32 → (Nat → Int32) → Option ((Nat → Int32) × Int64)) : Option ((Nat → Int32) × Int64) :=
  if 283 ≤ x1_2 then (some (q_2, spareX))
  else (gd (¬ (x1_2 < 0 ∨ 283 ≤ (x1_2).toNatClampNeg)) (k_2 (x1_2 + 1) (upd q_2 (x1_2).toNatClampNeg (spare (x1_2).toNatClampNeg))))
def f_M_bringBack (q : Nat → Int32) (x : Int64) (spare : Nat → Int32) (spareX : Int64) : Option ((Nat → Int32) × Int64) :=
  rl2 (f_M_bringBack_2 spare spareX) FUEL 0 q
def f_M_remember_80 (q : Nat → Int32) (x : Int64) (x1_80 : Int32) (remembered_80 : Nat → Int32) (rememberedX_80 : Nat → Int64) (states_80 : Int32) (k_80 : Int32 → (Nat → Int32) → (Nat → Int64) → Int32 → Option ((Nat → Int32) × (Nat → Int64) × Int32)) : Option ((Nat → Int32) × (Nat → Int64) × Int32) :=
  if 283 ≤ x1_80 then (gd (¬ (states_80 < 0 ∨ 14 ≤ (states_80).toNatClampNeg)) (some (remembered_80, vp_updL rememberedX_80 (states_80).toNatClampNeg x, states_80 + 1)))
  else (gd (¬ (x1_80 < 0 ∨ 283 ≤ (x1_80).toNatClampNeg)) (gd (¬ (((283 * states_80) + x1_80) < 0 ∨ 3962 ≤ ((283 * states_80) + x1_80).toNatClampNeg)) (k_80 (x1_80 + 1) (upd remembered_80 ((283 * states_80) + x1_80).toNatClampNeg (q (x1_80).toNatClampNeg)) rememberedX_80 states_80)))
def f_M_remember_78 (q : Nat → Int32) (x : Int64) (remembered_78 : Nat → Int32) (rememberedX_78 : Nat → Int64) (states_78 : Int32) : Option ((Nat → Int32) × (Nat → Int64) × Int32) :=
  rl4 (f_M_remember_80 q x) FUEL 0 remembered_78 rememberedX_78 states_78
def f_M_remember_42 (q : Nat → Int32) (x : Int64) (states : Int32) (x1_42 : Int32) (remembered_42 : Nat → Int32) (rememberedX_42 : Nat → Int64) (k_42 : Int32 → (Nat → Int32) → (Nat → Int64) → Option ((Nat → Int32) × (Nat → Int64) × Int32)) : Option ((Nat → Int32) × (Nat → Int64) × Int32) :=
  if 13 ≤ x1_42 then (f_M_remember_78 q x remembered_42 rememberedX_42 (states - 1))
  else (gd (¬ ((x1_42 + 1) < 0 ∨ 14 ≤ (x1_42 + 1).toNatClampNeg)) (gd (¬ (x1_42 < 0 ∨ 14 ≤ (x1_42).toNatClampNeg)) (k_42 (x1_42 + 1) remembered_42 (vp_updL rememberedX_42 (x1_42).toNatClampNeg (rememberedX_42 (x1_42 + 1).toNatClampNeg)))))
def f_M_remember_11 (q : Nat → Int32) (x : Int64) (rememberedX : Nat → Int64) (states : Int32) (x1_11 : Int32) (remembered_11 : Nat → Int32) (k_11 : Int32 → (Nat → Int32) → Option ((Nat → Int32) × (Nat → Int64) × Int32)) : Option ((Nat → Int32) × (Nat → Int64) × Int32) :=
  if 3679 ≤ x1_11 then (rl3 (f_M_remember_42 q x states) FUEL 0 remembered_11 rememberedX)
  else (gd (¬ ((x1_11 + 283) < 0 ∨ 3962 ≤ (x1_11 + 283).toNatClampNeg)) (gd (¬ (x1_11 < 0 ∨ 3962 ≤ (x1_11).toNatClampNeg)) (k_11 (x1_11 + 1) (upd remembered_11 (x1_11).toNatClampNeg (remembered_11 (x1_11 + 283).toNatClampNeg)))))
def f_M_remember (q : Nat → Int32) (x : Int64) (remembered : Nat → Int32) (rememberedX : Nat → Int64) (states : Int32) : Option ((Nat → Int32) × (Nat → Int64) × Int32) :=
  if ¬ states = 14 then (f_M_remember_78 q x remembered rememberedX states)
  else (rl2 (f_M_remember_11 q x rememberedX states) FUEL 0 remembered)
def f_M_isHouse (q : Nat → Int32) (p0 : Int32) : Option (Int32) :=
  cal (f_M_in (Int32.toInt64 p0) 0 (Int32.toInt64 ((q 0) - 1))) (fun o_12 => gd (o_12 = 0 ∨ o_12 = 1) (some (o_12)))
def f_M_isKey (q : Nat → Int32) (p0 : Int32) (p1 : Int32) : Option (Int32) :=
  cal (f_M_isHouse q p0) (fun o_2 => if o_2 = 0 then (some (0))
  else (cal (f_M_in (Int32.toInt64 p1) 0 5) (fun o_14 => if o_14 = 0 then (some (0))
  else (some (1)))))
def f_M_isRecord (q : Nat → Int32) (p0 : Int32) : Option (Int32) :=
  cal (f_M_in (Int32.toInt64 p0) 0 (Int32.toInt64 ((q 2) - 1))) (fun o_12 => gd (o_12 = 0 ∨ o_12 = 1) (some (o_12)))
def f_M_isDevice (q : Nat → Int32) (p0 : Int32) : Option (Int32) :=
  cal (f_M_in (Int32.toInt64 p0) 0 (Int32.toInt64 ((q 1) - 1))) (fun o_12 => gd (o_12 = 0 ∨ o_12 = 1) (some (o_12)))
def f_M_keyAt (p0 : Int32) (p1 : Int32) : Option (Int32) :=
  some ((5 + (6 * p0)) + p1)
def f_M_of (q : Nat → Int32) (p0 : Int32) (p1 : Int32) : Option (Int32) :=
  gd (¬ (((59 + (5 * p0)) + p1) < 0 ∨ 283 ≤ ((59 + (5 * p0)) + p1).toNatClampNeg)) (some (q ((59 + (5 * p0)) + p1).toNatClampNeg))
def f_M_ofDevice (q : Nat → Int32) (p0 : Int32) (p1 : Int32) : Option (Int32) :=
  gd (¬ (((259 + (4 * p0)) + p1) < 0 ∨ 283 ≤ ((259 + (4 * p0)) + p1).toNatClampNeg)) (some (q ((259 + (4 * p0)) + p1).toNatClampNeg))
def f_M_apart_6 (x2_6 : Int32) (x3_6 : Int32) (k_6 : Int32 → Int32 → Option (Int32)) : Option (Int32) :=
  if x3_6 = 0 then (some (x2_6))
  else (bnd (x3_6 &&& (x3_6 - 1)) (fun x3_v18 => k_6 (x2_6 + 1) x3_v18))
def f_M_apart (p0 : Int32) (p1 : Int32) : Option (Int32) :=
  rl2 f_M_apart_6 FUEL 0 (p0 ^^^ p1)
def f_M_rootOf_2 (q : Nat → Int32) (x2_2 : Int32) (k_2 : Int32 → Option (Int32)) : Option (Int32) :=
  cal (f_M_of q x2_2 3) (fun o_5 => if o_5 < 0 then (some (x2_2))
  else (cal (f_M_of q x2_2 3) (fun o_14 => k_2 o_14)))
def f_M_rootOf (q : Nat → Int32) (p0 : Int32) : Option (Int32) :=
  rl1 (f_M_rootOf_2 q) FUEL p0
def f_M_generation_4 (q : Nat → Int32) (x2_4 : Int32) (x3_4 : Int32) (k_4 : Int32 → Int32 → Option (Int32)) : Option (Int32) :=
  cal (f_M_of q x3_4 3) (fun o_7 => if o_7 < 0 then (some (x2_4))
  else (cal (f_M_of q x3_4 3) (fun o_19 => k_4 (x2_4 + 1) o_19)))
def f_M_generation (q : Nat → Int32) (p0 : Int32) : Option (Int32) :=
  rl2 (f_M_generation_4 q) FUEL 0 p0
def f_M_wrongBits_23 (q : Nat → Int32) (k_4 : Int32 → Int32 → Option (Int32)) (x3_23 : Int32) (s0_23 : Int32) (s1_23 : Int32) : Option (Int32) :=
  bnd (s0_23 + s1_23) (fun x2_v24 => cal (f_M_of q x3_23 3) (fun o_28 => k_4 x2_v24 o_28))
def f_M_wrongBits_4 (q : Nat → Int32) (x2_4 : Int32) (x3_4 : Int32) (k_4 : Int32 → Int32 → Option (Int32)) : Option (Int32) :=
  if x3_4 < 0 then (some (x2_4))
  else (cal (f_M_of q x3_4 4) (fun o_12 => if o_12 < 0 then (f_M_wrongBits_23 q k_4 x3_4 x2_4 0)
  else (f_M_wrongBits_23 q k_4 x3_4 x2_4 1)))
def f_M_wrongBits (q : Nat → Int32) (p0 : Int32) : Option (Int32) :=
  rl2 (f_M_wrongBits_4 q) FUEL 0 p0
def f_M_isInChain_2 (q : Nat → Int32) (p0 : Int32) (x3_2 : Int32) (k_2 : Int32 → Option (Int32)) : Option (Int32) :=
  if x3_2 ≤ p0 then (if ¬ x3_2 = p0 then (some (0))
  else (some (1)))
  else (cal (f_M_of q x3_2 3) (fun o_10 => k_2 o_10))
def f_M_isInChain (q : Nat → Int32) (p0 : Int32) (p1 : Int32) : Option (Int32) :=
  rl1 (f_M_isInChain_2 q p0) FUEL p1
def f_M_makes (q : Nat → Int32) (p0 : Int32) (p1 : Int32) (p2 : Int32) (p3 : Int32) (p4 : Int32) : Option (Int32 × (Nat → Int32)) :=
  bnd (59 + (5 * (q 2))) (fun x7_v15 => gd (¬ (x7_v15 < 0 ∨ 283 ≤ (x7_v15).toNatClampNeg)) (gd (¬ ((x7_v15 + 1) < 0 ∨ 283 ≤ (x7_v15 + 1).toNatClampNeg)) (gd (¬ ((x7_v15 + 2) < 0 ∨ 283 ≤ (x7_v15 + 2).toNatClampNeg)) (gd (¬ ((x7_v15 + 3) < 0 ∨ 283 ≤ (x7_v15 + 3).toNatClampNeg)) (gd (¬ ((x7_v15 + 4) < 0 ∨ 283 ≤ (x7_v15 + 4).toNatClampNeg)) (cal (f_M_keyAt p1 p2) (fun o_73 => gd (¬ (o_73 < 0 ∨ 283 ≤ (o_73).toNatClampNeg)) (some (q 2, upd (upd (upd (upd (upd (upd (upd q (x7_v15).toNatClampNeg p0) (x7_v15 + 1).toNatClampNeg p1) (x7_v15 + 2).toNatClampNeg p2) (x7_v15 + 3).toNatClampNeg p3) (x7_v15 + 4).toNatClampNeg p4) (o_73).toNatClampNeg (q 2)) 2 (((upd (upd (upd (upd (upd (upd q (x7_v15).toNatClampNeg p0) (x7_v15 + 1).toNatClampNeg p1) (x7_v15 + 2).toNatClampNeg p2) (x7_v15 + 3).toNatClampNeg p3) (x7_v15 + 4).toNatClampNeg p4) (o_73).toNatClampNeg (q 2)) 2) + 1))))))))))
def f_M_wrongBit (q : Nat → Int32) (x : Int64) (p0 : Int32) : Option (Int32 × Int64) :=
  bnd (Int64.toInt32 ((((x * 6364136223846793005) + 1442695040888963407).toUInt64 >>> ((Int32.toInt64 33).toUInt64 &&& Int64.toUInt64 63)).toInt64)) (fun x2_v24 => if ((q 3) * p0) ≤ (x2_v24 - x2_v24 / 10 * 10) then (some ((-1), (x * 6364136223846793005) + 1442695040888963407))
  else (some ((x2_v24 / 16) - (x2_v24 / 16) / 12 * 12, (x * 6364136223846793005) + 1442695040888963407)))
def f_M_changed (p0 : Int32) (p1 : Int32) : Option (Int32) :=
  if 0 ≤ p1 then (some (p0 ^^^ (1 <<< (p1 &&& 31))))
  else (some (p0))
def f_M_far (p0 : Int32) (p1 : Int32) : Option (Int32) :=
  if p1 ≤ p0 then (some (p0 - p1))
  else (some (p1 - p0))
def f_M_teaches (q : Nat → Int32) (x : Int64) (p0 : Int32) (p1 : Int32) (p2 : Int32) (p3 : Int32) : Option (Int32 × (Nat → Int32) × Int64) :=
  cal (f_M_keyAt p0 p1) (fun o_6 => gd (¬ (o_6 < 0 ∨ 283 ≤ (o_6).toNatClampNeg)) (bnd (q (o_6).toNatClampNeg) (fun x5_v10 => cal (f_M_far p0 p2) (fun o_15 => cal (f_M_wrongBit q x o_15) (fun o_18 => cal (f_M_of q x5_v10 0) (fun o_27 => cal (f_M_changed o_27 o_18.1) (fun o_32 => cal (f_M_makes q o_32 p2 p3 x5_v10 o_18.1) (fun o_47 => some (o_32, o_47.2, o_18.2)))))))))
def f_M_accepts (q : Nat → Int32) (p0 : Int32) (p1 : Int32) (p2 : Int32) (p3 : Int32) : Option (Int32) :=
  cal (f_M_ofDevice q p0 0) (fun o_3 => cal (f_M_far o_3 p2) (fun o_7 => if p3 < o_7 then (some (0))
  else (cal (f_M_ofDevice q p0 1) (fun o_18 => cal (f_M_apart o_18 p1) (fun o_22 => cal (f_M_ofDevice q p0 2) (fun o_28 => if o_28 < o_22 then (some (0))
  else (some (1))))))))
def f_M_acceptedBy_64 (k_17 : Int32 → Int32 → Option (Int32)) (x5_64 : Int32) (s0_64 : Int32) (s1_64 : Int32) : Option (Int32) :=
  bnd (s0_64 ||| s1_64) (fun x4_v65 => k_17 x4_v65 (x5_64 + 1))
def f_M_acceptedBy_17 (q : Nat → Int32) (p0 : Int32) (x3_v10 : Int32) (x4_17 : Int32) (x5_17 : Int32) (k_17 : Int32 → Int32 → Option (Int32)) : Option (Int32) :=
  if (q 1) ≤ x5_17 then (some (x4_17))
  else (if x3_v10 < 0 then (some (x4_17))
  else (cal (f_M_of q x3_v10 0) (fun o_40 => cal (f_M_accepts q x5_17 o_40 p0 (q 4)) (fun o_50 => if o_50 = 0 then (f_M_acceptedBy_64 k_17 x5_17 x4_17 0)
  else (f_M_acceptedBy_64 k_17 x5_17 x4_17 (1 <<< (x5_17 &&& 31)))))))
def f_M_acceptedBy (q : Nat → Int32) (p0 : Int32) (p1 : Int32) : Option (Int32) :=
  cal (f_M_keyAt p0 p1) (fun o_6 => gd (¬ (o_6 < 0 ∨ 283 ≤ (o_6).toNatClampNeg)) (bnd (q (o_6).toNatClampNeg) (fun x3_v10 => rl2 (f_M_acceptedBy_17 q p0 x3_v10) FUEL 0 0)))
def f_M_presses_10 (o_3 : Int32) (x4_10 : Int32) (q_10 : Nat → Int32) (k_10 : Int32 → (Nat → Int32) → Option (Int32 × (Nat → Int32))) : Option (Int32 × (Nat → Int32)) :=
  if (q_10 1) ≤ x4_10 then (some (o_3, q_10))
  else (gd (¬ (((259 + (4 * x4_10)) + 3) < 0 ∨ 283 ≤ ((259 + (4 * x4_10)) + 3).toNatClampNeg)) (k_10 (x4_10 + 1) (upd q_10 ((259 + (4 * x4_10)) + 3).toNatClampNeg ((q_10 ((259 + (4 * x4_10)) + 3).toNatClampNeg) ^^^ ((o_3 >>> (x4_10 &&& 31)) &&& 1)))))
def f_M_presses (q : Nat → Int32) (p0 : Int32) (p1 : Int32) : Option (Int32 × (Nat → Int32)) :=
  cal (f_M_acceptedBy q p0 p1) (fun o_3 => rl2 (f_M_presses_10 o_3) FUEL 0 q)
def f_M_append (text : Nat → Int32) (length : Int32) (thrown : Int32) (p0 : Int32) : Option (Int32 × (Nat → Int32) × Int32 × Int32) :=
  cal (f_M_in (Int32.toInt64 p0) 0 255) (fun o_11 => if ¬ o_11 = 0 then (if ¬ length = 120 then (gd (¬ (length < 0 ∨ 120 ≤ (length).toNatClampNeg)) (some (length + 1, upd text (length).toNatClampNeg p0, length + 1, 0)))
  else (cal (f_M_fails 0 2) (fun o_34 => some (o_34.1, text, length, o_34.2))))
  else (cal (f_M_fails 0 1) (fun o_19 => some (o_19.1, text, length, o_19.2))))
def f_M_clearText (length : Int32) (thrown : Int32) : Option (Int32 × Int32 × Int32) :=
  some (length, 0, 0)
def f_M_sign_44 (place : Int32) (x2_44 : Int32) (s2_44 : Int32) : Option (Int32 × Int32) :=
  gd (x2_44 = 0 ∨ x2_44 = 1) (some (x2_44, place + s2_44))
def f_M_sign_29 (place : Int32) (s0_29 : Int32) : Option (Int32 × Int32) :=
  if s0_29 = 0 then (f_M_sign_44 place s0_29 0)
  else (f_M_sign_44 place s0_29 1)
def f_M_sign_28 (place : Int32) : Option (Int32 × Int32) :=
  f_M_sign_29 place 0
def f_M_sign (text : Nat → Int32) (length : Int32) (place : Int32) (p0 : Int32) : Option (Int32 × Int32) :=
  if length ≤ place then (f_M_sign_28 place)
  else (gd (¬ (place < 0 ∨ 120 ≤ (place).toNatClampNeg)) (if ¬ (text (place).toNatClampNeg) = p0 then (f_M_sign_28 place)
  else (f_M_sign_29 place 1)))
def f_M_digitTo_58 (place : Int32) (s1_28 : Int32) (o_40 : Int32) (s2_58 : Int32) : Option (Int32 × Int32 × Int32) :=
  gd (o_40 = 0 ∨ o_40 = 1) (some (o_40, place + s2_58, s1_28))
def f_M_digitTo_28 (place : Int32) (p0 : Int32) (p1 : Int32) (s1_28 : Int32) : Option (Int32 × Int32 × Int32) :=
  cal (f_M_in (Int32.toInt64 s1_28) (Int32.toInt64 p0) (Int32.toInt64 p1)) (fun o_40 => if o_40 = 0 then (f_M_digitTo_58 place s1_28 o_40 0)
  else (f_M_digitTo_58 place s1_28 o_40 1))
def f_M_digitTo (text : Nat → Int32) (length : Int32) (place : Int32) (digit : Int32) (p0 : Int32) (p1 : Int32) : Option (Int32 × Int32 × Int32) :=
  if length ≤ place then (f_M_digitTo_28 place p0 p1 ((-1)))
  else (gd (¬ (place < 0 ∨ 120 ≤ (place).toNatClampNeg)) (f_M_digitTo_28 place p0 p1 ((text (place).toNatClampNeg) - 48)))
def f_M_readCode_69 (text : Nat → Int32) (length : Int32) (k_9 : Int32 → Int32 → Int32 → Int32 → Int32 → Option (Int32 × Int32 × Int32 × Int32)) (x2_69 : Int32) (s0_69 : Int32) (place_69 : Int32) (digit_69 : Int32) (code_69 : Int32) : Option (Int32 × Int32 × Int32 × Int32) :=
  cal (f_M_digitTo text length place_69 digit_69 0 s0_69) (fun o_73 => k_9 o_73.1 (x2_69 + 1) o_73.2.1 o_73.2.2 ((10 * code_69) + o_73.2.2))
def f_M_readCode_67 (text : Nat → Int32) (length : Int32) (k_9 : Int32 → Int32 → Int32 → Int32 → Int32 → Option (Int32 × Int32 × Int32 × Int32)) (x2_67 : Int32) (place_67 : Int32) (digit_67 : Int32) (code_67 : Int32) : Option (Int32 × Int32 × Int32 × Int32) :=
  f_M_readCode_69 text length k_9 x2_67 9 place_67 digit_67 code_67
def f_M_readCode_9 (text : Nat → Int32) (length : Int32) (x1_9 : Int32) (x2_9 : Int32) (place_9 : Int32) (digit_9 : Int32) (code_9 : Int32) (k_9 : Int32 → Int32 → Int32 → Int32 → Int32 → Option (Int32 × Int32 × Int32 × Int32)) : Option (Int32 × Int32 × Int32 × Int32) :=
  if 4 ≤ x2_9 then (gd (x1_9 = 0 ∨ x1_9 = 1) (some (x1_9, place_9, digit_9, code_9)))
  else (if x1_9 = 0 then (gd (x1_9 = 0 ∨ x1_9 = 1) (some (x1_9, place_9, digit_9, code_9)))
  else (if ¬ x2_9 = 0 then (if ¬ x2_9 = 1 then (if ¬ x2_9 = 3 then (f_M_readCode_67 text length k_9 x2_9 place_9 digit_9 code_9)
  else (if ¬ code_9 = 409 then (f_M_readCode_67 text length k_9 x2_9 place_9 digit_9 code_9)
  else (f_M_readCode_69 text length k_9 x2_9 5 place_9 digit_9 code_9)))
  else (if ¬ code_9 = 4 then (f_M_readCode_69 text length k_9 x2_9 9 place_9 digit_9 code_9)
  else (f_M_readCode_69 text length k_9 x2_9 0 place_9 digit_9 code_9)))
  else (f_M_readCode_69 text length k_9 x2_9 4 place_9 digit_9 code_9)))
def f_M_readCode (text : Nat → Int32) (length : Int32) (place : Int32) (digit : Int32) (code : Int32) : Option (Int32 × Int32 × Int32 × Int32) :=
  rl5 (f_M_readCode_9 text length) FUEL 1 0 place digit 0
def f_M_adds (q : Nat → Int32) (p0 : Int32) (p1 : Int32) (p2 : Int32) : Option (Int32 × (Nat → Int32)) :=
  bnd (259 + (4 * (q 1))) (fun x4_v12 => gd (¬ (x4_v12 < 0 ∨ 283 ≤ (x4_v12).toNatClampNeg)) (gd (¬ ((x4_v12 + 1) < 0 ∨ 283 ≤ (x4_v12 + 1).toNatClampNeg)) (gd (¬ ((x4_v12 + 2) < 0 ∨ 283 ≤ (x4_v12 + 2).toNatClampNeg)) (gd (¬ ((x4_v12 + 3) < 0 ∨ 283 ≤ (x4_v12 + 3).toNatClampNeg)) (some (((upd (upd (upd (upd (upd q (x4_v12).toNatClampNeg p0) (x4_v12 + 1).toNatClampNeg p1) (x4_v12 + 2).toNatClampNeg p2) (x4_v12 + 3).toNatClampNeg 0) 1 (((upd (upd (upd (upd q (x4_v12).toNatClampNeg p0) (x4_v12 + 1).toNatClampNeg p1) (x4_v12 + 2).toNatClampNeg p2) (x4_v12 + 3).toNatClampNeg 0) 1) + 1)) 1) - 1, upd (upd (upd (upd (upd q (x4_v12).toNatClampNeg p0) (x4_v12 + 1).toNatClampNeg p1) (x4_v12 + 2).toNatClampNeg p2) (x4_v12 + 3).toNatClampNeg 0) 1 (((upd (upd (upd (upd q (x4_v12).toNatClampNeg p0) (x4_v12 + 1).toNatClampNeg p1) (x4_v12 + 2).toNatClampNeg p2) (x4_v12 + 3).toNatClampNeg 0) 1) + 1)))))))
def f_M_part_271 (q : Nat → Int32) (keys : Int32) (devices : Int32) (code : Int32) (x3_271 : Int32) (s1_271 : Int32) (place_271 : Int32) (digit_271 : Int32) : Option (Int32 × (Nat → Int32) × Int32 × Int32 × Int32 × Int32 × Int32) :=
  gd (¬ (s1_271 < 0 ∨ 283 ≤ (s1_271).toNatClampNeg)) (gd (x3_271 = 0 ∨ x3_271 = 1) (some (x3_271, upd q (s1_271).toNatClampNeg digit_271, place_271, digit_271, keys, devices, code)))
def f_M_part_249 (q : Nat → Int32) (keys : Int32) (devices : Int32) (code : Int32) (p0 : Int32) (o_209 : Int32 × Int32) (s0_249 : Int32) (place_249 : Int32) (digit_249 : Int32) : Option (Int32 × (Nat → Int32) × Int32 × Int32 × Int32 × Int32 × Int32) :=
  if s0_249 = 0 then (gd (s0_249 = 0 ∨ s0_249 = 1) (some (s0_249, q, place_249, digit_249, keys, devices, code)))
  else (if p0 = 0 then (gd (s0_249 = 0 ∨ s0_249 = 1) (some (s0_249, q, place_249, digit_249, keys, devices, code)))
  else (if o_209.1 = 0 then (f_M_part_271 q keys devices code s0_249 4 place_249 digit_249)
  else (f_M_part_271 q keys devices code s0_249 3 place_249 digit_249)))
def f_M_part_248 (q : Nat → Int32) (keys : Int32) (devices : Int32) (code : Int32) (p0 : Int32) (o_209 : Int32 × Int32) (place_248 : Int32) (digit_248 : Int32) : Option (Int32 × (Nat → Int32) × Int32 × Int32 × Int32 × Int32 × Int32) :=
  f_M_part_249 q keys devices code p0 o_209 0 place_248 digit_248
def f_M_part_238 (q : Nat → Int32) (text : Nat → Int32) (length : Int32) (digit : Int32) (keys : Int32) (devices : Int32) (code : Int32) (p0 : Int32) (o_209 : Int32 × Int32) (s2_238 : Int32) (place_238 : Int32) : Option (Int32 × (Nat → Int32) × Int32 × Int32 × Int32 × Int32 × Int32) :=
  cal (f_M_digitTo text length place_238 digit 0 s2_238) (fun o_238 => if o_238.1 = 0 then (f_M_part_248 q keys devices code p0 o_209 o_238.2.1 o_238.2.2)
  else (f_M_part_249 q keys devices code p0 o_209 1 o_238.2.1 o_238.2.2))
def f_M_part_226 (q : Nat → Int32) (text : Nat → Int32) (length : Int32) (digit : Int32) (keys : Int32) (devices : Int32) (code : Int32) (p0 : Int32) (o_209 : Int32 × Int32) (place_226 : Int32) : Option (Int32 × (Nat → Int32) × Int32 × Int32 × Int32 × Int32 × Int32) :=
  if o_209.1 = 0 then (f_M_part_238 q text length digit keys devices code p0 o_209 8 place_226)
  else (f_M_part_238 q text length digit keys devices code p0 o_209 3 place_226)
def f_M_part_206 (q : Nat → Int32) (text : Nat → Int32) (length : Int32) (digit : Int32) (keys : Int32) (devices : Int32) (code : Int32) (p0 : Int32) (place_206 : Int32) : Option (Int32 × (Nat → Int32) × Int32 × Int32 × Int32 × Int32 × Int32) :=
  cal (f_M_sign text length place_206 110) (fun o_209 => if ¬ o_209.1 = 0 then (f_M_part_226 q text length digit keys devices code p0 o_209 o_209.2)
  else (cal (f_M_sign text length o_209.2 115) (fun o_220 => if o_220.1 = 0 then (f_M_part_248 q keys devices code p0 o_209 o_220.2 digit)
  else (f_M_part_226 q text length digit keys devices code p0 o_209 o_220.2))))
def f_M_part_181 (q : Nat → Int32) (keys : Int32) (devices : Int32) (p0 : Int32) (o_147 : Int32 × Int32 × Int32) (s0_181 : Int32) (place_181 : Int32) (digit_181 : Int32) (code_181 : Int32) : Option (Int32 × (Nat → Int32) × Int32 × Int32 × Int32 × Int32 × Int32) :=
  if s0_181 = 0 then (gd (s0_181 = 0 ∨ s0_181 = 1) (some (s0_181, q, place_181, digit_181, keys, devices + 1, code_181)))
  else (if p0 = 0 then (gd (s0_181 = 0 ∨ s0_181 = 1) (some (s0_181, q, place_181, digit_181, keys, devices + 1, code_181)))
  else (cal (f_M_adds q o_147.2.2 code_181 digit_181) (fun o_200 => gd (s0_181 = 0 ∨ s0_181 = 1) (some (s0_181, o_200.2, place_181, digit_181, keys, devices + 1, code_181)))))
def f_M_part_180 (q : Nat → Int32) (keys : Int32) (devices : Int32) (p0 : Int32) (o_147 : Int32 × Int32 × Int32) (place_180 : Int32) (digit_180 : Int32) (code_180 : Int32) : Option (Int32 × (Nat → Int32) × Int32 × Int32 × Int32 × Int32 × Int32) :=
  f_M_part_181 q keys devices p0 o_147 0 place_180 digit_180 code_180
def f_M_part_111 (q : Nat → Int32) (text : Nat → Int32) (length : Int32) (digit : Int32) (houses : Int32) (keys : Int32) (devices : Int32) (code : Int32) (p0 : Int32) (place_111 : Int32) : Option (Int32 × (Nat → Int32) × Int32 × Int32 × Int32 × Int32 × Int32) :=
  if 6 ≤ devices then (f_M_part_206 q text length digit keys devices code p0 place_111)
  else (cal (f_M_sign text length place_111 100) (fun o_123 => if o_123.1 = 0 then (f_M_part_206 q text length digit keys devices code p0 o_123.2)
  else (cal (f_M_digitTo text length o_123.2 digit 0 (houses - 1)) (fun o_147 => if o_147.1 = 0 then (f_M_part_180 q keys devices p0 o_147 o_147.2.1 o_147.2.2 code)
  else (cal (f_M_readCode text length o_147.2.1 o_147.2.2 code) (fun o_161 => if o_161.1 = 0 then (f_M_part_180 q keys devices p0 o_147 o_161.2.1 o_161.2.2.1 o_161.2.2.2)
  else (cal (f_M_digitTo text length o_161.2.1 o_161.2.2.1 0 3) (fun o_170 => if o_170.1 = 0 then (f_M_part_180 q keys devices p0 o_147 o_170.2.1 o_170.2.2 o_161.2.2.2)
  else (f_M_part_181 q keys devices p0 o_147 1 o_170.2.1 o_170.2.2 o_161.2.2.2)))))))))
def f_M_part_86 (q : Nat → Int32) (keys : Int32) (devices : Int32) (p0 : Int32) (o_36 : Int32 × Int32 × Int32) (x4_86 : Int32) (s0_86 : Int32) (place_86 : Int32) (digit_86 : Int32) (code_86 : Int32) : Option (Int32 × (Nat → Int32) × Int32 × Int32 × Int32 × Int32 × Int32) :=
  if s0_86 = 0 then (gd (s0_86 = 0 ∨ s0_86 = 1) (some (s0_86, q, place_86, digit_86, keys + 1, devices, code_86)))
  else (if p0 = 0 then (gd (s0_86 = 0 ∨ s0_86 = 1) (some (s0_86, q, place_86, digit_86, keys + 1, devices, code_86)))
  else (cal (f_M_makes q code_86 o_36.2.2 x4_86 ((-1)) ((-1))) (fun o_105 => gd (s0_86 = 0 ∨ s0_86 = 1) (some (s0_86, o_105.2, place_86, digit_86, keys + 1, devices, code_86)))))
def f_M_part_85 (q : Nat → Int32) (keys : Int32) (devices : Int32) (p0 : Int32) (o_36 : Int32 × Int32 × Int32) (x4_85 : Int32) (place_85 : Int32) (digit_85 : Int32) (code_85 : Int32) : Option (Int32 × (Nat → Int32) × Int32 × Int32 × Int32 × Int32 × Int32) :=
  f_M_part_86 q keys devices p0 o_36 x4_85 0 place_85 digit_85 code_85
def f_M_part_63 (q : Nat → Int32) (text : Nat → Int32) (length : Int32) (keys : Int32) (devices : Int32) (code : Int32) (p0 : Int32) (o_36 : Int32 × Int32 × Int32) (s0_63 : Int32) (place_63 : Int32) (digit_63 : Int32) : Option (Int32 × (Nat → Int32) × Int32 × Int32 × Int32 × Int32 × Int32) :=
  if s0_63 = 0 then (f_M_part_85 q keys devices p0 o_36 digit_63 place_63 digit_63 code)
  else (cal (f_M_readCode text length place_63 digit_63 code) (fun o_75 => if o_75.1 = 0 then (f_M_part_85 q keys devices p0 o_36 digit_63 o_75.2.1 o_75.2.2.1 o_75.2.2.2)
  else (f_M_part_86 q keys devices p0 o_36 digit_63 1 o_75.2.1 o_75.2.2.1 o_75.2.2.2)))
def f_M_part_62 (q : Nat → Int32) (text : Nat → Int32) (length : Int32) (keys : Int32) (devices : Int32) (code : Int32) (p0 : Int32) (o_36 : Int32 × Int32 × Int32) (place_62 : Int32) (digit_62 : Int32) : Option (Int32 × (Nat → Int32) × Int32 × Int32 × Int32 × Int32 × Int32) :=
  f_M_part_63 q text length keys devices code p0 o_36 0 place_62 digit_62
def f_M_part (q : Nat → Int32) (text : Nat → Int32) (length : Int32) (place : Int32) (digit : Int32) (houses : Int32) (keys : Int32) (devices : Int32) (code : Int32) (p0 : Int32) : Option (Int32 × (Nat → Int32) × Int32 × Int32 × Int32 × Int32 × Int32) :=
  if 12 ≤ keys then (f_M_part_111 q text length digit houses keys devices code p0 place)
  else (cal (f_M_sign text length place 107) (fun o_12 => if o_12.1 = 0 then (f_M_part_111 q text length digit houses keys devices code p0 o_12.2)
  else (cal (f_M_digitTo text length o_12.2 digit 0 (houses - 1)) (fun o_36 => if o_36.1 = 0 then (f_M_part_62 q text length keys devices code p0 o_36 o_36.2.1 o_36.2.2)
  else (cal (f_M_digitTo text length o_36.2.1 o_36.2.2 0 5) (fun o_52 => if o_52.1 = 0 then (f_M_part_62 q text length keys devices code p0 o_36 o_52.2.1 o_52.2.2)
  else (f_M_part_63 q text length keys devices code p0 o_36 1 o_52.2.1 o_52.2.2)))))))
def f_M_reads_66 (text : Nat → Int32) (length : Int32) (p0 : Int32) (digit_39 : Int32) (x2_66 : Int32) (q_66 : Nat → Int32) (place_66 : Int32) (digit_66 : Int32) (keys_66 : Int32) (devices_66 : Int32) (code_66 : Int32) (k_66 : Int32 → (Nat → Int32) → Int32 → Int32 → Int32 → Int32 → Int32 → Option (Int32 × (Nat → Int32) × Int32 × Int32 × Int32 × Int32 × Int32 × Int32)) : Option (Int32 × (Nat → Int32) × Int32 × Int32 × Int32 × Int32 × Int32 × Int32) :=
  if x2_66 = 0 then (gd (x2_66 = 0 ∨ x2_66 = 1) (some (x2_66, q_66, place_66, digit_66, digit_39, keys_66, devices_66, code_66)))
  else (if length ≤ place_66 then (gd (x2_66 = 0 ∨ x2_66 = 1) (some (x2_66, q_66, place_66, digit_66, digit_39, keys_66, devices_66, code_66)))
  else (cal (f_M_part q_66 text length place_66 digit_66 digit_39 keys_66 devices_66 code_66 p0) (fun o_83 => k_66 o_83.1 o_83.2.1 o_83.2.2.1 o_83.2.2.2.1 o_83.2.2.2.2.1 o_83.2.2.2.2.2.1 o_83.2.2.2.2.2.2)))
def f_M_reads_39 (q : Nat → Int32) (text : Nat → Int32) (length : Int32) (code : Int32) (p0 : Int32) (s0_39 : Int32) (place_39 : Int32) (digit_39 : Int32) : Option (Int32 × (Nat → Int32) × Int32 × Int32 × Int32 × Int32 × Int32 × Int32) :=
  if s0_39 = 0 then (rl7 (f_M_reads_66 text length p0 digit_39) FUEL s0_39 q place_39 digit_39 0 0 code)
  else (if p0 = 0 then (rl7 (f_M_reads_66 text length p0 digit_39) FUEL s0_39 q place_39 digit_39 0 0 code)
  else (rl7 (f_M_reads_66 text length p0 digit_39) FUEL s0_39 (upd q 0 digit_39) place_39 digit_39 0 0 code))
def f_M_reads_38 (q : Nat → Int32) (text : Nat → Int32) (length : Int32) (code : Int32) (p0 : Int32) (place_38 : Int32) (digit_38 : Int32) : Option (Int32 × (Nat → Int32) × Int32 × Int32 × Int32 × Int32 × Int32 × Int32) :=
  f_M_reads_39 q text length code p0 0 place_38 digit_38
def f_M_reads (q : Nat → Int32) (text : Nat → Int32) (length : Int32) (place : Int32) (digit : Int32) (houses : Int32) (keys : Int32) (devices : Int32) (code : Int32) (p0 : Int32) : Option (Int32 × (Nat → Int32) × Int32 × Int32 × Int32 × Int32 × Int32 × Int32) :=
  cal (f_M_sign text length 0 82) (fun o_18 => if o_18.1 = 0 then (f_M_reads_38 q text length code p0 o_18.2 digit)
  else (cal (f_M_digitTo text length o_18.2 digit 2 9) (fun o_28 => if o_28.1 = 0 then (f_M_reads_38 q text length code p0 o_28.2.1 o_28.2.2)
  else (f_M_reads_39 q text length code p0 1 o_28.2.1 o_28.2.2))))
def f_M_errorPosition (q : Nat → Int32) (text : Nat → Int32) (length : Int32) (thrown : Int32) (place : Int32) (digit : Int32) (houses : Int32) (keys : Int32) (devices : Int32) (code : Int32) : Option (Int32 × (Nat → Int32) × Int32 × Int32 × Int32 × Int32 × Int32 × Int32 × Int32) :=
  cal (f_M_reads q text length place digit houses keys devices code 0) (fun o_7 => if o_7.1 = 0 then (some (o_7.2.2.1, o_7.2.1, 0, o_7.2.2.1, o_7.2.2.2.1, o_7.2.2.2.2.1, o_7.2.2.2.2.2.1, o_7.2.2.2.2.2.2.1, o_7.2.2.2.2.2.2.2))
  else (some ((-9), o_7.2.1, 0, o_7.2.2.1, o_7.2.2.2.1, o_7.2.2.2.2.1, o_7.2.2.2.2.2.1, o_7.2.2.2.2.2.2.1, o_7.2.2.2.2.2.2.2)))
def f_M_load (q : Nat → Int32) (x : Int64) (states : Int32) (isSaved : Nat → Int32) (text : Nat → Int32) (length : Int32) (thrown : Int32) (place : Int32) (digit : Int32) (houses : Int32) (keys : Int32) (devices : Int32) (code : Int32) : Option (Int32 × (Nat → Int32) × Int64 × Int32 × (Nat → Int32) × Int32 × Int32 × Int32 × Int32 × Int32 × Int32 × Int32) :=
  cal (f_M_reads q text length place digit houses keys devices code 0) (fun o_7 => if ¬ o_7.1 = 0 then (cal (f_M_anew o_7.2.1 x) (fun o_20 => cal (f_M_reads o_20.1 text length o_7.2.2.1 o_7.2.2.2.1 o_7.2.2.2.2.1 o_7.2.2.2.2.2.1 o_7.2.2.2.2.2.2.1 o_7.2.2.2.2.2.2.2 1) (fun o_25 => some (o_25.2.1 2, o_25.2.1, o_20.2, 0, upd (upd isSaved 0 (vp_nar .boolean 0)) 1 (vp_nar .boolean 0), 0, o_25.2.2.1, o_25.2.2.2.1, o_25.2.2.2.2.1, o_25.2.2.2.2.2.1, o_25.2.2.2.2.2.2.1, o_25.2.2.2.2.2.2.2))))
  else (cal (f_M_fails 0 1) (fun o_15 => some (o_15.1, o_7.2.1, x, states, isSaved, o_15.2, o_7.2.2.1, o_7.2.2.2.1, o_7.2.2.2.2.1, o_7.2.2.2.2.2.1, o_7.2.2.2.2.2.2.1, o_7.2.2.2.2.2.2.2))))
def f_M_rootMany_88 (k_4 : Int32 → Int32 → Option (Int32)) (x2_88 : Int32) (s0_88 : Int32) (s1_88 : Int32) : Option (Int32) :=
  bnd (s0_88 + s1_88) (fun x1_v89 => k_4 x1_v89 (x2_88 + 1))
def f_M_rootMany_71 (k_19 : Int32 → Int32 → Int32 → Int32 → Option (Int32)) (x1_71 : Int32) (x2_71 : Int32) (x4_71 : Int32) (s0_71 : Int32) : Option (Int32) :=
  k_19 x1_71 x2_71 s0_71 (x4_71 + 1)
def f_M_rootMany_66 (k_19 : Int32 → Int32 → Int32 → Int32 → Option (Int32)) (x1_66 : Int32) (x2_66 : Int32) (x4_66 : Int32) : Option (Int32) :=
  f_M_rootMany_71 k_19 x1_66 x2_66 x4_66 1
def f_M_rootMany_70 (k_19 : Int32 → Int32 → Int32 → Int32 → Option (Int32)) (x1_70 : Int32) (x2_70 : Int32) (x4_70 : Int32) : Option (Int32) :=
  f_M_rootMany_71 k_19 x1_70 x2_70 x4_70 0
def f_M_rootMany_19 (q : Nat → Int32) (k_4 : Int32 → Int32 → Option (Int32)) (x1_19 : Int32) (x2_19 : Int32) (x3_19 : Int32) (x4_19 : Int32) (k_19 : Int32 → Int32 → Int32 → Int32 → Option (Int32)) : Option (Int32) :=
  if (6 * (q 0)) ≤ x4_19 then (if x3_19 = 0 then (f_M_rootMany_88 k_4 x2_19 x1_19 0)
  else (f_M_rootMany_88 k_4 x2_19 x1_19 1))
  else (if ¬ x3_19 = 0 then (f_M_rootMany_66 k_19 x1_19 x2_19 x4_19)
  else (gd (¬ ((5 + x4_19) < 0 ∨ 283 ≤ (5 + x4_19).toNatClampNeg)) (if (q (5 + x4_19).toNatClampNeg) < 0 then (f_M_rootMany_70 k_19 x1_19 x2_19 x4_19)
  else (cal (f_M_rootOf q (q (5 + x4_19).toNatClampNeg)) (fun o_59 => if ¬ o_59 = x2_19 then (f_M_rootMany_70 k_19 x1_19 x2_19 x4_19)
  else (f_M_rootMany_66 k_19 x1_19 x2_19 x4_19))))))
def f_M_rootMany_4 (q : Nat → Int32) (x1_4 : Int32) (x2_4 : Int32) (k_4 : Int32 → Int32 → Option (Int32)) : Option (Int32) :=
  if (q 2) ≤ x2_4 then (some (x1_4))
  else (rl4 (f_M_rootMany_19 q k_4) FUEL x1_4 x2_4 0 0)
def f_M_rootMany (q : Nat → Int32) : Option (Int32) :=
  rl2 (f_M_rootMany_4 q) FUEL 0 0
def f_M_about_99 (q : Nat → Int32) (p0 : Int32) (x2_99 : Int32) (x3_99 : Int32) (x4_99 : Int32) (x5_99 : Int32) (x6_99 : Int32) (k_99 : Int32 → Int32 → Int32 → Int32 → Int32 → Option (Int32 × Int32)) : Option (Int32 × Int32) :=
  if (q 1) ≤ x6_99 then (if p0 = 0 then (gd (¬ (p0 < 0 ∨ 283 ≤ (p0).toNatClampNeg)) (some (q (p0).toNatClampNeg, 0)))
  else (if p0 = 1 then (gd (¬ (p0 < 0 ∨ 283 ≤ (p0).toNatClampNeg)) (some (q (p0).toNatClampNeg, 0)))
  else (if p0 = 2 then (gd (¬ (p0 < 0 ∨ 283 ≤ (p0).toNatClampNeg)) (some (q (p0).toNatClampNeg, 0)))
  else (if p0 = 3 then (gd (¬ (p0 < 0 ∨ 283 ≤ (p0).toNatClampNeg)) (some (q (p0).toNatClampNeg, 0)))
  else (if p0 = 4 then (gd (¬ (p0 < 0 ∨ 283 ≤ (p0).toNatClampNeg)) (some (q (p0).toNatClampNeg, 0)))
  else (if p0 = 5 then (some (x2_99, 0))
  else (if p0 = 6 then (some (x3_99, 0))
  else (if p0 = 7 then (some (x5_99, 0))
  else (if p0 = 8 then (cal (f_M_rootMany q) (fun o_203 => some (o_203, 0)))
  else (if p0 = 9 then (some (x4_99, 0))
  else (cal (f_M_fails 0 1) (fun o_212 => some (o_212.1, o_212.2)))))))))))))
  else (cal (f_M_ofDevice q x6_99 3) (fun o_116 => bnd (x5_99 ||| (o_116 <<< (x6_99 &&& 31))) (fun x5_v123 => k_99 x2_99 x3_99 x4_99 x5_v123 (x6_99 + 1))))
def f_M_about_85 (k_16 : Int32 → Int32 → Int32 → Int32 → Option (Int32 × Int32)) (x2_v44 : Int32) (x3_v62 : Int32) (x5_85 : Int32) (s0_85 : Int32) : Option (Int32 × Int32) :=
  k_16 x2_v44 x3_v62 s0_85 (x5_85 + 1)
def f_M_about_61 (q : Nat → Int32) (k_16 : Int32 → Int32 → Int32 → Int32 → Option (Int32 × Int32)) (x2_v44 : Int32) (x4_61 : Int32) (x5_61 : Int32) (s0_61 : Int32) (s1_61 : Int32) : Option (Int32 × Int32) :=
  bnd (s0_61 + s1_61) (fun x3_v62 => cal (f_M_generation q x5_61) (fun o_66 => if o_66 ≤ x4_61 then (f_M_about_85 k_16 x2_v44 x3_v62 x5_61 x4_61)
  else (cal (f_M_generation q x5_61) (fun o_77 => f_M_about_85 k_16 x2_v44 x3_v62 x5_61 o_77))))
def f_M_about_43 (q : Nat → Int32) (k_16 : Int32 → Int32 → Int32 → Int32 → Option (Int32 × Int32)) (x3_43 : Int32) (x4_43 : Int32) (x5_43 : Int32) (s0_43 : Int32) (s1_43 : Int32) : Option (Int32 × Int32) :=
  bnd (s0_43 + s1_43) (fun x2_v44 => cal (f_M_of q x5_43 4) (fun o_50 => if o_50 < 0 then (f_M_about_61 q k_16 x2_v44 x4_43 x5_43 x3_43 0)
  else (f_M_about_61 q k_16 x2_v44 x4_43 x5_43 x3_43 1)))
def f_M_about_16 (q : Nat → Int32) (p0 : Int32) (x2_16 : Int32) (x3_16 : Int32) (x4_16 : Int32) (x5_16 : Int32) (k_16 : Int32 → Int32 → Int32 → Int32 → Option (Int32 × Int32)) : Option (Int32 × Int32) :=
  if (q 2) ≤ x5_16 then (rl5 (f_M_about_99 q p0) FUEL x2_16 x3_16 x4_16 0 0)
  else (cal (f_M_of q x5_16 3) (fun o_32 => if o_32 < 0 then (f_M_about_43 q k_16 x3_16 x4_16 x5_16 x2_16 0)
  else (f_M_about_43 q k_16 x3_16 x4_16 x5_16 x2_16 1)))
def f_M_about (q : Nat → Int32) (thrown : Int32) (p0 : Int32) : Option (Int32 × Int32) :=
  bnd ((-9)) (fun x4_v11 => rl4 (f_M_about_16 q p0) FUEL 0 0 x4_v11 0)
def f_M_key (q : Nat → Int32) (thrown : Int32) (p0 : Int32) (p1 : Int32) (p2 : Int32) : Option (Int32 × Int32) :=
  cal (f_M_isKey q p0 p1) (fun o_8 => if ¬ o_8 = 0 then (cal (f_M_in (Int32.toInt64 p2) 0 5) (fun o_26 => if ¬ o_26 = 0 then (cal (f_M_keyAt p0 p1) (fun o_44 => gd (¬ (o_44 < 0 ∨ 283 ≤ (o_44).toNatClampNeg)) (bnd (q (o_44).toNatClampNeg) (fun x4_v48 => if 0 ≤ x4_v48 then (if p2 = 0 then (cal (f_M_of q x4_v48 0) (fun o_96 => some (o_96, 0)))
  else (if p2 = 1 then (some (x4_v48, 0))
  else (if p2 = 2 then (cal (f_M_generation q x4_v48) (fun o_106 => some (o_106, 0)))
  else (if p2 = 3 then (cal (f_M_rootOf q x4_v48) (fun o_114 => cal (f_M_of q o_114 1) (fun o_118 => some (o_118, 0))))
  else (if p2 = 4 then (cal (f_M_wrongBits q x4_v48) (fun o_125 => some (o_125, 0)))
  else (cal (f_M_of q x4_v48 0) (fun o_133 => cal (f_M_rootOf q x4_v48) (fun o_140 => cal (f_M_of q o_140 0) (fun o_144 => cal (f_M_apart o_133 o_144) (fun o_147 => some (o_147, 0)))))))))))
  else (some ((-9), 0))))))
  else (cal (f_M_fails 0 2) (fun o_34 => some (o_34.1, o_34.2)))))
  else (cal (f_M_fails 0 1) (fun o_16 => some (o_16.1, o_16.2))))
def f_M_orNone (p0 : Int32) : Option (Int32) :=
  if 0 ≤ p0 then (some (p0))
  else (some ((-9)))
def f_M_record_134 (k_84 : Int32 → Int32 → Int32 → Option (Int32 × Int32)) (x3_134 : Int32) (x5_134 : Int32) (s0_134 : Int32) (s1_134 : Int32) : Option (Int32 × Int32) :=
  bnd (s0_134 + s1_134) (fun x4_v135 => k_84 x3_134 x4_v135 (x5_134 + 1))
def f_M_record_133 (k_84 : Int32 → Int32 → Int32 → Option (Int32 × Int32)) (x3_133 : Int32) (x5_133 : Int32) (s0_133 : Int32) : Option (Int32 × Int32) :=
  f_M_record_134 k_84 x3_133 x5_133 s0_133 0
def f_M_record_84 (q : Nat → Int32) (p0 : Int32) (p1 : Int32) (x3_84 : Int32) (x4_84 : Int32) (x5_84 : Int32) (k_84 : Int32 → Int32 → Int32 → Option (Int32 × Int32)) : Option (Int32 × Int32) :=
  if (6 * (q 0)) ≤ x5_84 then (if p1 = 0 then (cal (f_M_of q p0 3) (fun o_187 => cal (f_M_orNone o_187) (fun o_190 => some (o_190, 0))))
  else (if p1 = 1 then (cal (f_M_of q p0 1) (fun o_197 => some (o_197, 0)))
  else (if p1 = 2 then (cal (f_M_of q p0 2) (fun o_204 => some (o_204, 0)))
  else (if p1 = 3 then (cal (f_M_of q p0 0) (fun o_211 => some (o_211, 0)))
  else (if p1 = 4 then (cal (f_M_of q p0 4) (fun o_218 => cal (f_M_orNone o_218) (fun o_221 => some (o_221, 0))))
  else (if p1 = 5 then (some (x3_84, 0))
  else (some (x4_84, 0))))))))
  else (gd (¬ ((5 + x5_84) < 0 ∨ 283 ≤ (5 + x5_84).toNatClampNeg)) (if (q (5 + x5_84).toNatClampNeg) < 0 then (f_M_record_133 k_84 x3_84 x5_84 x4_84)
  else (cal (f_M_isInChain q p0 (q (5 + x5_84).toNatClampNeg)) (fun o_123 => if o_123 = 0 then (f_M_record_133 k_84 x3_84 x5_84 x4_84)
  else (f_M_record_134 k_84 x3_84 x5_84 x4_84 1)))))
def f_M_record_70 (k_42 : Int32 → Int32 → Option (Int32 × Int32)) (x4_70 : Int32) (s0_70 : Int32) (s1_70 : Int32) : Option (Int32 × Int32) :=
  bnd (s0_70 + s1_70) (fun x3_v71 => k_42 x3_v71 (x4_70 + 1))
def f_M_record_42 (q : Nat → Int32) (p0 : Int32) (p1 : Int32) (x3_42 : Int32) (x4_42 : Int32) (k_42 : Int32 → Int32 → Option (Int32 × Int32)) : Option (Int32 × Int32) :=
  if (q 2) ≤ x4_42 then (rl3 (f_M_record_84 q p0 p1) FUEL x3_42 0 0)
  else (cal (f_M_of q x4_42 3) (fun o_58 => if ¬ o_58 = p0 then (f_M_record_70 k_42 x4_42 x3_42 0)
  else (f_M_record_70 k_42 x4_42 x3_42 1)))
def f_M_record (q : Nat → Int32) (thrown : Int32) (p0 : Int32) (p1 : Int32) : Option (Int32 × Int32) :=
  cal (f_M_isRecord q p0) (fun o_7 => if ¬ o_7 = 0 then (cal (f_M_in (Int32.toInt64 p1) 0 6) (fun o_25 => if ¬ o_25 = 0 then (rl2 (f_M_record_42 q p0 p1) FUEL 0 0)
  else (cal (f_M_fails 0 2) (fun o_33 => some (o_33.1, o_33.2)))))
  else (cal (f_M_fails 0 1) (fun o_15 => some (o_15.1, o_15.2))))
def f_M_device_103 (k_42 : Int32 → Int32 → Option (Int32 × Int32)) (x4_103 : Int32) (s0_103 : Int32) (s1_103 : Int32) : Option (Int32 × Int32) :=
  bnd (s0_103 + s1_103) (fun x3_v104 => k_42 x3_v104 (x4_103 + 1))
def f_M_device_102 (k_42 : Int32 → Int32 → Option (Int32 × Int32)) (x4_102 : Int32) (s0_102 : Int32) : Option (Int32 × Int32) :=
  f_M_device_103 k_42 x4_102 s0_102 0
def f_M_device_42 (q : Nat → Int32) (p0 : Int32) (p1 : Int32) (x3_42 : Int32) (x4_42 : Int32) (k_42 : Int32 → Int32 → Option (Int32 × Int32)) : Option (Int32 × Int32) :=
  if (6 * (q 0)) ≤ x4_42 then (if 4 ≤ p1 then (some (x3_42, 0))
  else (cal (f_M_ofDevice q p0 p1) (fun o_119 => some (o_119, 0))))
  else (gd (¬ ((5 + x4_42) < 0 ∨ 283 ≤ (5 + x4_42).toNatClampNeg)) (if (q (5 + x4_42).toNatClampNeg) < 0 then (f_M_device_102 k_42 x4_42 x3_42)
  else (cal (f_M_of q (q (5 + x4_42).toNatClampNeg) 0) (fun o_82 => cal (f_M_accepts q p0 o_82 (x4_42 / 6) 8) (fun o_92 => if o_92 = 0 then (f_M_device_102 k_42 x4_42 x3_42)
  else (f_M_device_103 k_42 x4_42 x3_42 1))))))
def f_M_device (q : Nat → Int32) (thrown : Int32) (p0 : Int32) (p1 : Int32) : Option (Int32 × Int32) :=
  cal (f_M_isDevice q p0) (fun o_7 => if ¬ o_7 = 0 then (cal (f_M_in (Int32.toInt64 p1) 0 4) (fun o_25 => if ¬ o_25 = 0 then (rl2 (f_M_device_42 q p0 p1) FUEL 0 0)
  else (cal (f_M_fails 0 2) (fun o_33 => some (o_33.1, o_33.2)))))
  else (cal (f_M_fails 0 1) (fun o_15 => some (o_15.1, o_15.2))))
def f_M_trace_71 (x4_71 : Int32) : Option (Int32 × Int32) :=
  cal (f_M_orNone x4_71) (fun o_73 => some (o_73, 0))
def f_M_trace_45 (q : Nat → Int32) (p2 : Int32) (x4_45 : Int32) (x5_45 : Int32) (k_45 : Int32 → Int32 → Option (Int32 × Int32)) : Option (Int32 × Int32) :=
  if p2 ≤ x5_45 then (f_M_trace_71 x4_45)
  else (if x4_45 < 0 then (f_M_trace_71 x4_45)
  else (cal (f_M_of q x4_45 3) (fun o_60 => k_45 o_60 (x5_45 + 1))))
def f_M_trace (q : Nat → Int32) (thrown : Int32) (p0 : Int32) (p1 : Int32) (p2 : Int32) : Option (Int32 × Int32) :=
  cal (f_M_isKey q p0 p1) (fun o_8 => if ¬ o_8 = 0 then (if 0 ≤ p2 then (cal (f_M_keyAt p0 p1) (fun o_36 => gd (¬ (o_36 < 0 ∨ 283 ≤ (o_36).toNatClampNeg)) (bnd (q (o_36).toNatClampNeg) (fun x4_v40 => rl2 (f_M_trace_45 q p2) FUEL x4_v40 0))))
  else (cal (f_M_fails 0 2) (fun o_26 => some (o_26.1, o_26.2))))
  else (cal (f_M_fails 0 1) (fun o_16 => some (o_16.1, o_16.2))))
def f_M_wentWrong_56 (q : Nat → Int32) (k_35 : Int32 → Int32 → Option (Int32 × Int32)) (x4_56 : Int32) (s0_56 : Int32) : Option (Int32 × Int32) :=
  cal (f_M_of q x4_56 3) (fun o_61 => k_35 s0_56 o_61)
def f_M_wentWrong_35 (q : Nat → Int32) (x3_35 : Int32) (x4_35 : Int32) (k_35 : Int32 → Int32 → Option (Int32 × Int32)) : Option (Int32 × Int32) :=
  if x4_35 < 0 then (some (x3_35, 0))
  else (cal (f_M_of q x4_35 4) (fun o_44 => if o_44 < 0 then (f_M_wentWrong_56 q k_35 x4_35 x3_35)
  else (f_M_wentWrong_56 q k_35 x4_35 x4_35)))
def f_M_wentWrong (q : Nat → Int32) (thrown : Int32) (p0 : Int32) (p1 : Int32) : Option (Int32 × Int32) :=
  cal (f_M_isKey q p0 p1) (fun o_8 => if ¬ o_8 = 0 then (bnd ((-9)) (fun x3_v22 => cal (f_M_keyAt p0 p1) (fun o_29 => gd (¬ (o_29 < 0 ∨ 283 ≤ (o_29).toNatClampNeg)) (bnd (q (o_29).toNatClampNeg) (fun x4_v33 => rl2 (f_M_wentWrong_35 q) FUEL x3_v22 x4_v33)))))
  else (cal (f_M_fails 0 1) (fun o_16 => some (o_16.1, o_16.2))))
def f_M_common_24 : Option (Int32 × Int32) :=
  cal (f_M_fails 0 1) (fun o_26 => some (o_26.1, o_26.2))
def f_M_common_103 (x5_103 : Int32) (x6_103 : Int32) : Option (Int32 × Int32) :=
  if x5_103 < 0 then (some ((-9), 0))
  else (if ¬ x5_103 = x6_103 then (some ((-9), 0))
  else (some (x5_103, 0)))
def f_M_common_55 (q : Nat → Int32) (x5_55 : Int32) (x6_55 : Int32) (k_55 : Int32 → Int32 → Option (Int32 × Int32)) : Option (Int32 × Int32) :=
  if x5_55 < 0 then (f_M_common_103 x5_55 x6_55)
  else (if x6_55 < 0 then (f_M_common_103 x5_55 x6_55)
  else (if x5_55 = x6_55 then (f_M_common_103 x5_55 x6_55)
  else (if x5_55 ≤ x6_55 then (cal (f_M_of q x6_55 3) (fun o_95 => k_55 x5_55 o_95))
  else (cal (f_M_of q x5_55 3) (fun o_83 => k_55 o_83 x6_55)))))
def f_M_common (q : Nat → Int32) (thrown : Int32) (p0 : Int32) (p1 : Int32) (p2 : Int32) (p3 : Int32) : Option (Int32 × Int32) :=
  cal (f_M_isKey q p0 p1) (fun o_8 => if o_8 = 0 then (f_M_common_24)
  else (cal (f_M_isKey q p2 p3) (fun o_18 => if ¬ o_18 = 0 then (cal (f_M_keyAt p0 p1) (fun o_36 => gd (¬ (o_36 < 0 ∨ 283 ≤ (o_36).toNatClampNeg)) (bnd (q (o_36).toNatClampNeg) (fun x5_v40 => cal (f_M_keyAt p2 p3) (fun o_49 => gd (¬ (o_49 < 0 ∨ 283 ≤ (o_49).toNatClampNeg)) (bnd (q (o_49).toNatClampNeg) (fun x6_v53 => rl2 (f_M_common_55 q) FUEL x5_v40 x6_v53)))))))
  else (f_M_common_24))))
def f_M_accepted (q : Nat → Int32) (thrown : Int32) (p0 : Int32) (p1 : Int32) : Option (Int32 × Int32) :=
  cal (f_M_isKey q p0 p1) (fun o_8 => if o_8 = 0 then (cal (f_M_fails 0 1) (fun o_25 => some (o_25.1, o_25.2)))
  else (cal (f_M_acceptedBy q p0 p1) (fun o_17 => some (o_17, 0))))
def f_M_enter (q : Nat → Int32) (x : Int64) (remembered : Nat → Int32) (rememberedX : Nat → Int64) (states : Int32) (thrown : Int32) (p0 : Int32) (p1 : Int32) (p2 : Int32) : Option (Int32 × (Nat → Int32) × (Nat → Int32) × (Nat → Int64) × Int32 × Int32) :=
  cal (f_M_isKey q p0 p1) (fun o_8 => if ¬ o_8 = 0 then (cal (f_M_in (Int32.toInt64 p2) 0 4095) (fun o_26 => if ¬ o_26 = 0 then (if ¬ (q 2) = 40 then (cal (f_M_remember q x remembered rememberedX states) (fun o_56 => cal (f_M_makes q p2 p0 p1 ((-1)) ((-1))) (fun o_65 => some (o_65.1, o_65.2, o_56.1, o_56.2.1, o_56.2.2, 0))))
  else (cal (f_M_fails 0 3) (fun o_51 => some (o_51.1, q, remembered, rememberedX, states, o_51.2))))
  else (cal (f_M_fails 0 2) (fun o_34 => some (o_34.1, q, remembered, rememberedX, states, o_34.2)))))
  else (cal (f_M_fails 0 1) (fun o_16 => some (o_16.1, q, remembered, rememberedX, states, o_16.2))))
def f_M_canTeach (q : Nat → Int32) (p0 : Int32) (p1 : Int32) : Option (Int32) :=
  cal (f_M_keyAt p0 p1) (fun o_6 => gd (¬ (o_6 < 0 ∨ 283 ≤ (o_6).toNatClampNeg)) (if (q (o_6).toNatClampNeg) < 0 then (some (0))
  else (if 40 ≤ (q 2) then (some (0))
  else (some (1)))))
def f_M_teach_24 (q : Nat → Int32) (x : Int64) (remembered : Nat → Int32) (rememberedX : Nat → Int64) (states : Int32) : Option (Int32 × (Nat → Int32) × Int64 × (Nat → Int32) × (Nat → Int64) × Int32 × Int32) :=
  cal (f_M_fails 0 1) (fun o_26 => some (o_26.1, q, x, remembered, rememberedX, states, o_26.2))
def f_M_teach_47 (q : Nat → Int32) (x : Int64) (remembered : Nat → Int32) (rememberedX : Nat → Int64) (states : Int32) (p0 : Int32) (p1 : Int32) (p2 : Int32) (p3 : Int32) : Option (Int32 × (Nat → Int32) × Int64 × (Nat → Int32) × (Nat → Int64) × Int32 × Int32) :=
  cal (f_M_canTeach q p0 p1) (fun o_50 => if ¬ o_50 = 0 then (cal (f_M_remember q x remembered rememberedX states) (fun o_63 => cal (f_M_teaches q x p0 p1 p2 p3) (fun o_72 => some (o_72.1, o_72.2.1, o_72.2.2, o_63.1, o_63.2.1, o_63.2.2, 0))))
  else (cal (f_M_fails 0 3) (fun o_58 => some (o_58.1, q, x, remembered, rememberedX, states, o_58.2))))
def f_M_teach (q : Nat → Int32) (x : Int64) (remembered : Nat → Int32) (rememberedX : Nat → Int64) (states : Int32) (thrown : Int32) (p0 : Int32) (p1 : Int32) (p2 : Int32) (p3 : Int32) : Option (Int32 × (Nat → Int32) × Int64 × (Nat → Int32) × (Nat → Int64) × Int32 × Int32) :=
  cal (f_M_isKey q p0 p1) (fun o_8 => if o_8 = 0 then (f_M_teach_24 q x remembered rememberedX states)
  else (cal (f_M_isKey q p2 p3) (fun o_18 => if ¬ o_18 = 0 then (if ¬ p0 = p2 then (f_M_teach_47 q x remembered rememberedX states p0 p1 p2 p3)
  else (if ¬ p1 = p3 then (f_M_teach_47 q x remembered rememberedX states p0 p1 p2 p3)
  else (cal (f_M_fails 0 2) (fun o_43 => some (o_43.1, q, x, remembered, rememberedX, states, o_43.2)))))
  else (f_M_teach_24 q x remembered rememberedX states))))
def f_M_erase (q : Nat → Int32) (x : Int64) (remembered : Nat → Int32) (rememberedX : Nat → Int64) (states : Int32) (thrown : Int32) (p0 : Int32) (p1 : Int32) : Option (Int32 × (Nat → Int32) × (Nat → Int32) × (Nat → Int64) × Int32 × Int32) :=
  cal (f_M_isKey q p0 p1) (fun o_8 => if ¬ o_8 = 0 then (cal (f_M_remember q x remembered rememberedX states) (fun o_21 => cal (f_M_keyAt p0 p1) (fun o_30 => gd (¬ (o_30 < 0 ∨ 283 ≤ (o_30).toNatClampNeg)) (bnd (q (o_30).toNatClampNeg) (fun x3_v34 => cal (f_M_keyAt p0 p1) (fun o_41 => gd (¬ (o_41 < 0 ∨ 283 ≤ (o_41).toNatClampNeg)) (if 0 ≤ x3_v34 then (cal (f_M_of (upd q (o_41).toNatClampNeg ((-1))) x3_v34 0) (fun o_58 => some (o_58, upd q (o_41).toNatClampNeg ((-1)), o_21.1, o_21.2.1, o_21.2.2, 0)))
  else (some ((-9), upd q (o_41).toNatClampNeg ((-1)), o_21.1, o_21.2.1, o_21.2.2, 0)))))))))
  else (cal (f_M_fails 0 1) (fun o_16 => some (o_16.1, q, remembered, rememberedX, states, o_16.2))))
def f_M_press (q : Nat → Int32) (x : Int64) (remembered : Nat → Int32) (rememberedX : Nat → Int64) (states : Int32) (thrown : Int32) (p0 : Int32) (p1 : Int32) : Option (Int32 × (Nat → Int32) × (Nat → Int32) × (Nat → Int64) × Int32 × Int32) :=
  cal (f_M_isKey q p0 p1) (fun o_8 => if ¬ o_8 = 0 then (cal (f_M_keyAt p0 p1) (fun o_26 => gd (¬ (o_26 < 0 ∨ 283 ≤ (o_26).toNatClampNeg)) (if 0 ≤ (q (o_26).toNatClampNeg) then (cal (f_M_remember q x remembered rememberedX states) (fun o_40 => cal (f_M_presses q p0 p1) (fun o_46 => some (o_46.1, o_46.2, o_40.1, o_40.2.1, o_40.2.2, 0))))
  else (cal (f_M_fails 0 2) (fun o_35 => some (o_35.1, q, remembered, rememberedX, states, o_35.2))))))
  else (cal (f_M_fails 0 1) (fun o_16 => some (o_16.1, q, remembered, rememberedX, states, o_16.2))))
def f_M_addDevice_43 (q : Nat → Int32) (remembered : Nat → Int32) (rememberedX : Nat → Int64) (states : Int32) : Option (Int32 × (Nat → Int32) × (Nat → Int32) × (Nat → Int64) × Int32 × Int32) :=
  cal (f_M_fails 0 2) (fun o_45 => some (o_45.1, q, remembered, rememberedX, states, o_45.2))
def f_M_addDevice (q : Nat → Int32) (x : Int64) (remembered : Nat → Int32) (rememberedX : Nat → Int64) (states : Int32) (thrown : Int32) (p0 : Int32) (p1 : Int32) (p2 : Int32) : Option (Int32 × (Nat → Int32) × (Nat → Int32) × (Nat → Int64) × Int32 × Int32) :=
  cal (f_M_isHouse q p0) (fun o_7 => if ¬ o_7 = 0 then (cal (f_M_in (Int32.toInt64 p1) 0 4095) (fun o_25 => if o_25 = 0 then (f_M_addDevice_43 q remembered rememberedX states)
  else (cal (f_M_in (Int32.toInt64 p2) 0 3) (fun o_37 => if ¬ o_37 = 0 then (if ¬ (q 1) = 6 then (cal (f_M_remember q x remembered rememberedX states) (fun o_67 => cal (f_M_adds q p0 p1 p2) (fun o_74 => some (o_74.1, o_74.2, o_67.1, o_67.2.1, o_67.2.2, 0))))
  else (cal (f_M_fails 0 3) (fun o_62 => some (o_62.1, q, remembered, rememberedX, states, o_62.2))))
  else (f_M_addDevice_43 q remembered rememberedX states)))))
  else (cal (f_M_fails 0 1) (fun o_15 => some (o_15.1, q, remembered, rememberedX, states, o_15.2))))
def f_M_puts (q : Nat → Int32) (p0 : Int32) (p1 : Int32) : Option (Int32 × (Nat → Int32)) :=
  gd (¬ (p0 < 0 ∨ 283 ≤ (p0).toNatClampNeg)) (bnd (q (p0).toNatClampNeg) (fun x3_v6 => some (x3_v6, upd q (p0).toNatClampNeg p1)))
def f_M_setTolerance (q : Nat → Int32) (x : Int64) (remembered : Nat → Int32) (rememberedX : Nat → Int64) (states : Int32) (thrown : Int32) (p0 : Int32) (p1 : Int32) : Option (Int32 × (Nat → Int32) × (Nat → Int32) × (Nat → Int64) × Int32 × Int32) :=
  cal (f_M_isDevice q p0) (fun o_7 => if ¬ o_7 = 0 then (cal (f_M_in (Int32.toInt64 p1) 0 3) (fun o_25 => if ¬ o_25 = 0 then (cal (f_M_remember q x remembered rememberedX states) (fun o_38 => cal (f_M_puts q ((259 + (4 * p0)) + 2) p1) (fun o_52 => some (o_52.1, o_52.2, o_38.1, o_38.2.1, o_38.2.2, 0))))
  else (cal (f_M_fails 0 2) (fun o_33 => some (o_33.1, q, remembered, rememberedX, states, o_33.2)))))
  else (cal (f_M_fails 0 1) (fun o_15 => some (o_15.1, q, remembered, rememberedX, states, o_15.2))))
def f_M_isSetting_26 (p1 : Int32) (s2_26 : Int64) : Option (Int32) :=
  cal (f_M_in (Int32.toInt64 p1) 0 s2_26) (fun o_26 => if o_26 = 0 then (some (0))
  else (some (1)))
def f_M_isSetting (p0 : Int32) (p1 : Int32) : Option (Int32) :=
  cal (f_M_in (Int32.toInt64 p0) 0 1) (fun o_4 => if o_4 = 0 then (some (0))
  else (if ¬ p0 = 0 then (f_M_isSetting_26 p1 8)
  else (f_M_isSetting_26 p1 3)))
def f_M_set (q : Nat → Int32) (x : Int64) (remembered : Nat → Int32) (rememberedX : Nat → Int64) (states : Int32) (thrown : Int32) (p0 : Int32) (p1 : Int32) : Option (Int32 × (Nat → Int32) × (Nat → Int32) × (Nat → Int64) × Int32 × Int32) :=
  cal (f_M_isSetting p0 p1) (fun o_7 => if ¬ o_7 = 0 then (cal (f_M_remember q x remembered rememberedX states) (fun o_20 => cal (f_M_puts q (3 + p0) p1) (fun o_28 => some (o_28.1, o_28.2, o_20.1, o_20.2.1, o_20.2.2, 0))))
  else (cal (f_M_fails 0 1) (fun o_15 => some (o_15.1, q, remembered, rememberedX, states, o_15.2))))
def f_M_undo_30 (remembered : Nat → Int32) (rememberedX : Nat → Int64) (states : Int32) (x1_30 : Int32) (q_30 : Nat → Int32) (k_30 : Int32 → (Nat → Int32) → Option (Int32 × (Nat → Int32) × Int64 × Int32 × Int32)) : Option (Int32 × (Nat → Int32) × Int64 × Int32 × Int32) :=
  if 283 ≤ x1_30 then (gd (¬ ((states - 1) < 0 ∨ 14 ≤ (states - 1).toNatClampNeg)) (some (states - 1, q_30, rememberedX (states - 1).toNatClampNeg, states - 1, 0)))
  else (gd (¬ (((283 * (states - 1)) + x1_30) < 0 ∨ 3962 ≤ ((283 * (states - 1)) + x1_30).toNatClampNeg)) (gd (¬ (x1_30 < 0 ∨ 283 ≤ (x1_30).toNatClampNeg)) (k_30 (x1_30 + 1) (upd q_30 (x1_30).toNatClampNeg (remembered ((283 * (states - 1)) + x1_30).toNatClampNeg)))))
def f_M_undo (q : Nat → Int32) (x : Int64) (remembered : Nat → Int32) (rememberedX : Nat → Int64) (states : Int32) (thrown : Int32) : Option (Int32 × (Nat → Int32) × Int64 × Int32 × Int32) :=
  if ¬ states = 0 then (rl2 (f_M_undo_30 remembered rememberedX states) FUEL 0 q)
  else (cal (f_M_fails 0 1) (fun o_14 => some (o_14.1, q, x, states, o_14.2)))
def f_M_handedOn_10 (q : Nat → Int32) (x4_10 : Int32) (x5_10 : Int32) (x_10 : Int64) (k_10 : Int32 → Int32 → Int64 → Option (Int32 × Int64)) : Option (Int32 × Int64) :=
  if x5_10 ≤ 0 then (some (x4_10, x_10))
  else (cal (f_M_wrongBit q x_10 1) (fun o_19 => cal (f_M_changed x4_10 o_19.1) (fun o_22 => k_10 o_22 (x5_10 + (-1)) o_19.2)))
def f_M_handedOn (q : Nat → Int32) (x : Int64) (p0 : Int32) (p1 : Int32) (p2 : Int32) : Option (Int32 × Int64) :=
  cal (f_M_far p1 p2) (fun o_5 => rl3 (f_M_handedOn_10 q) FUEL p0 o_5 x)
def f_M_learned (q : Nat → Int32) (x : Int64) (p0 : Int32) (p1 : Int32) (p2 : Int32) : Option (Int32 × Int64) :=
  cal (f_M_keyAt p0 p1) (fun o_13 => gd (¬ (o_13 < 0 ∨ 283 ≤ (o_13).toNatClampNeg)) (cal (f_M_of q (q (o_13).toNatClampNeg) 0) (fun o_18 => cal (f_M_far p0 p2) (fun o_24 => cal (f_M_wrongBit q x o_24) (fun o_27 => cal (f_M_changed o_18 o_27.1) (fun o_30 => some (o_30, x)))))))
def f_M_wouldBe_22 (x : Int64) : Option (Int32 × Int64 × Int32) :=
  cal (f_M_fails 0 1) (fun o_24 => some (o_24.1, x, o_24.2))
def f_M_wouldBe (q : Nat → Int32) (x : Int64) (thrown : Int32) (p0 : Int32) (p1 : Int32) (p2 : Int32) : Option (Int32 × Int64 × Int32) :=
  cal (f_M_isKey q p0 p1) (fun o_8 => if o_8 = 0 then (f_M_wouldBe_22 x)
  else (cal (f_M_isHouse q p2) (fun o_16 => if ¬ o_16 = 0 then (cal (f_M_keyAt p0 p1) (fun o_34 => gd (¬ (o_34 < 0 ∨ 283 ≤ (o_34).toNatClampNeg)) (if 0 ≤ (q (o_34).toNatClampNeg) then (cal (f_M_learned q x p0 p1 p2) (fun o_50 => some (o_50.1, o_50.2, 0)))
  else (some ((-9), x, 0)))))
  else (f_M_wouldBe_22 x))))
def f_M_handed_22 (x : Int64) : Option (Int32 × Int64 × Int32) :=
  cal (f_M_fails 0 1) (fun o_24 => some (o_24.1, x, o_24.2))
def f_M_handed (q : Nat → Int32) (x : Int64) (thrown : Int32) (p0 : Int32) (p1 : Int32) (p2 : Int32) : Option (Int32 × Int64 × Int32) :=
  cal (f_M_isKey q p0 p1) (fun o_8 => if o_8 = 0 then (f_M_handed_22 x)
  else (cal (f_M_isHouse q p2) (fun o_16 => if ¬ o_16 = 0 then (cal (f_M_keyAt p0 p1) (fun o_34 => gd (¬ (o_34 < 0 ∨ 283 ≤ (o_34).toNatClampNeg)) (if 0 ≤ (q (o_34).toNatClampNeg) then (cal (f_M_keyAt p0 p1) (fun o_58 => gd (¬ (o_58 < 0 ∨ 283 ≤ (o_58).toNatClampNeg)) (cal (f_M_of q (q (o_58).toNatClampNeg) 0) (fun o_63 => cal (f_M_handedOn q x o_63 p0 p2) (fun o_68 => some (o_68.1, x, 0))))))
  else (some ((-9), x, 0)))))
  else (f_M_handed_22 x))))
def f_M_bestTeacher_21 (x : Int64) : Option (Int32 × Int64 × Int32) :=
  cal (f_M_fails 0 1) (fun o_23 => some (o_23.1, x, o_23.2))
def f_M_bestTeacher_134 (k_37 : Int32 → Int32 → Int32 → Int64 → Option (Int32 × Int64 × Int32)) (x3_134 : Int32) (x5_134 : Int32) (s0_134 : Int32) (x_134 : Int64) : Option (Int32 × Int64 × Int32) :=
  k_37 x3_134 s0_134 (x5_134 + 1) x_134
def f_M_bestTeacher_119 (k_37 : Int32 → Int32 → Int32 → Int64 → Option (Int32 × Int64 × Int32)) (x4_119 : Int32) (x5_119 : Int32) (x6_119 : Int32) (s0_119 : Int32) (x_119 : Int64) : Option (Int32 × Int64 × Int32) :=
  if x4_119 ≤ x6_119 then (f_M_bestTeacher_134 k_37 s0_119 x5_119 x4_119 x_119)
  else (f_M_bestTeacher_134 k_37 s0_119 x5_119 x6_119 x_119)
def f_M_bestTeacher_92 (k_37 : Int32 → Int32 → Int32 → Int64 → Option (Int32 × Int64 × Int32)) (x3_92 : Int32) (x4_92 : Int32) (x5_92 : Int32) (s0_92 : Int32) (x_92 : Int64) : Option (Int32 × Int64 × Int32) :=
  if x4_92 ≤ s0_92 then (f_M_bestTeacher_119 k_37 x4_92 x5_92 s0_92 x3_92 x_92)
  else (f_M_bestTeacher_119 k_37 x4_92 x5_92 s0_92 ((10 * (x5_92 / 6)) + (x5_92 - x5_92 / 6 * 6)) x_92)
def f_M_bestTeacher_37 (q : Nat → Int32) (p0 : Int32) (p1 : Int32) (x3_37 : Int32) (x4_37 : Int32) (x5_37 : Int32) (x_37 : Int64) (k_37 : Int32 → Int32 → Int32 → Int64 → Option (Int32 × Int64 × Int32)) : Option (Int32 × Int64 × Int32) :=
  if (6 * (q 0)) ≤ x5_37 then (some (x3_37, x_37, 0))
  else (gd (¬ ((5 + x5_37) < 0 ∨ 283 ≤ (5 + x5_37).toNatClampNeg)) (if 0 ≤ (q (5 + x5_37).toNatClampNeg) then (cal (f_M_learned q x_37 (x5_37 / 6) (x5_37 - x5_37 / 6 * 6) p0) (fun o_80 => cal (f_M_ofDevice q p1 1) (fun o_86 => cal (f_M_apart o_80.1 o_86) (fun o_89 => f_M_bestTeacher_92 k_37 x3_37 x4_37 x5_37 o_89 o_80.2))))
  else (f_M_bestTeacher_92 k_37 x3_37 x4_37 x5_37 13 x_37)))
def f_M_bestTeacher (q : Nat → Int32) (x : Int64) (thrown : Int32) (p0 : Int32) (p1 : Int32) : Option (Int32 × Int64 × Int32) :=
  cal (f_M_isHouse q p0) (fun o_7 => if o_7 = 0 then (f_M_bestTeacher_21 x)
  else (cal (f_M_isDevice q p1) (fun o_15 => if ¬ o_15 = 0 then (bnd ((-9)) (fun x3_v29 => rl4 (f_M_bestTeacher_37 q p0 p1) FUEL x3_v29 13 0 x))
  else (f_M_bestTeacher_21 x))))
def f_M_leastTolerance_105 (k_23 : Int32 → Int32 → Option (Int32 × Int32)) (x3_105 : Int32) (s0_105 : Int32) : Option (Int32 × Int32) :=
  k_23 s0_105 (x3_105 + 1)
def f_M_leastTolerance_91 (k_23 : Int32 → Int32 → Option (Int32 × Int32)) (x2_91 : Int32) (x3_91 : Int32) (s0_91 : Int32) : Option (Int32 × Int32) :=
  if s0_91 ≤ x2_91 then (f_M_leastTolerance_105 k_23 x3_91 x2_91)
  else (f_M_leastTolerance_105 k_23 x3_91 s0_91)
def f_M_leastTolerance_90 (k_23 : Int32 → Int32 → Option (Int32 × Int32)) (x2_90 : Int32) (x3_90 : Int32) : Option (Int32 × Int32) :=
  f_M_leastTolerance_91 k_23 x2_90 x3_90 0
def f_M_leastTolerance_23 (q : Nat → Int32) (p0 : Int32) (x2_23 : Int32) (x3_23 : Int32) (k_23 : Int32 → Int32 → Option (Int32 × Int32)) : Option (Int32 × Int32) :=
  if (6 * (q 0)) ≤ x3_23 then (if x2_23 ≤ 3 then (some (x2_23, 0))
  else (some ((-9), 0)))
  else (gd (¬ ((5 + x3_23) < 0 ∨ 283 ≤ (5 + x3_23).toNatClampNeg)) (bnd (q (5 + x3_23).toNatClampNeg) (fun x4_v44 => if x4_v44 < 0 then (f_M_leastTolerance_90 k_23 x2_23 x3_23)
  else (cal (f_M_rootOf q x4_v44) (fun o_55 => cal (f_M_of q o_55 0) (fun o_59 => cal (f_M_ofDevice q p0 1) (fun o_65 => if ¬ o_59 = o_65 then (f_M_leastTolerance_90 k_23 x2_23 x3_23)
  else (cal (f_M_of q x4_v44 0) (fun o_75 => cal (f_M_ofDevice q p0 1) (fun o_81 => cal (f_M_apart o_75 o_81) (fun o_84 => f_M_leastTolerance_91 k_23 x2_23 x3_23 o_84)))))))))))
def f_M_leastTolerance (q : Nat → Int32) (thrown : Int32) (p0 : Int32) : Option (Int32 × Int32) :=
  cal (f_M_isDevice q p0) (fun o_7 => if ¬ o_7 = 0 then (rl2 (f_M_leastTolerance_23 q p0) FUEL 0 0)
  else (cal (f_M_fails 0 1) (fun o_15 => some (o_15.1, o_15.2))))
def f_M_acts_64 (q : Nat → Int32) (x : Int64) (p1 : Int32) (p2 : Int32) (p3 : Int32) (p4 : Int32) : Option (Int32 × (Nat → Int32) × Int64) :=
  cal (f_M_canTeach q p1 p2) (fun o_67 => if ¬ o_67 = 0 then (cal (f_M_teaches q x p1 p2 p3 p4) (fun o_82 => some (1, o_82.2.1, o_82.2.2)))
  else (some (0, q, x)))
def f_M_acts (q : Nat → Int32) (x : Int64) (p0 : Int32) (p1 : Int32) (p2 : Int32) (p3 : Int32) (p4 : Int32) : Option (Int32 × (Nat → Int32) × Int64) :=
  if p0 = 1 then (cal (f_M_isKey q p1 p2) (fun o_35 => if o_35 = 0 then (some (0, q, x))
  else (cal (f_M_isKey q p3 p4) (fun o_46 => if o_46 = 0 then (some (0, q, x))
  else (if ¬ p1 = p3 then (f_M_acts_64 q x p1 p2 p3 p4)
  else (if p2 = p4 then (some (0, q, x))
  else (f_M_acts_64 q x p1 p2 p3 p4)))))))
  else (if p0 = 2 then (cal (f_M_isKey q p1 p2) (fun o_91 => if o_91 = 0 then (some (0, q, x))
  else (cal (f_M_keyAt p1 p2) (fun o_103 => gd (¬ (o_103 < 0 ∨ 283 ≤ (o_103).toNatClampNeg)) (if (q (o_103).toNatClampNeg) < 0 then (some (0, q, x))
  else (if (p3 + p4) ≤ 0 then (cal (f_M_presses q p1 p2) (fun o_123 => some (1, o_123.2, x)))
  else (some (0, q, x))))))))
  else (if p0 = 3 then (cal (f_M_isKey q p1 p2) (fun o_132 => if o_132 = 0 then (some (0, q, x))
  else (if (p3 + p4) ≤ 0 then (cal (f_M_keyAt p1 p2) (fun o_154 => gd (¬ (o_154 < 0 ∨ 283 ≤ (o_154).toNatClampNeg)) (some (1, upd q (o_154).toNatClampNeg ((-1)), x))))
  else (some (0, q, x)))))
  else (if p0 = 4 then (cal (f_M_isSetting p1 p2) (fun o_163 => if o_163 = 0 then (some (0, q, x))
  else (if (p3 + p4) ≤ 0 then (gd (¬ ((3 + p1) < 0 ∨ 283 ≤ (3 + p1).toNatClampNeg)) (some (1, upd q (3 + p1).toNatClampNeg p2, x)))
  else (some (0, q, x)))))
  else (cal (f_M_isDevice q p1) (fun o_192 => if o_192 = 0 then (some (0, q, x))
  else (if 3 < p2 then (some (0, q, x))
  else (if (p3 + p4) ≤ 0 then (gd (¬ (((259 + (4 * p1)) + 2) < 0 ∨ 283 ≤ ((259 + (4 * p1)) + 2).toNatClampNeg)) (some (1, upd q ((259 + (4 * p1)) + 2).toNatClampNeg p2, x)))
  else (some (0, q, x)))))))))
def f_M_succeeds (q : Nat → Int32) (x : Int64) (p0 : Int32) : Option (Int32 × (Nat → Int32) × Int64) :=
  bnd (p0 / 10000) (fun x2_v5 => bnd ((p0 / 1000) - (p0 / 1000) / 10 * 10) (fun x3_v14 => bnd ((p0 / 100) - (p0 / 100) / 10 * 10) (fun x4_v22 => bnd ((p0 / 10) - (p0 / 10) / 10 * 10) (fun x5_v31 => bnd (p0 - p0 / 10 * 10) (fun x6_v37 => cal (f_M_in (Int32.toInt64 x2_v5) 1 5) (fun o_45 => if o_45 = 0 then (if ¬ x2_v5 = 9 then (if x2_v5 = 0 then (some (0, q, x))
  else (cal (f_M_isKey q x3_v14 x4_v22) (fun o_111 => if o_111 = 0 then (some (0, q, x))
  else (cal (f_M_keyAt x3_v14 x4_v22) (fun o_124 => gd (¬ (o_124 < 0 ∨ 283 ≤ (o_124).toNatClampNeg)) (if 0 ≤ (q (o_124).toNatClampNeg) then (cal (f_M_keyAt x3_v14 x4_v22) (fun o_140 => gd (¬ (o_140 < 0 ∨ 283 ≤ (o_140).toNatClampNeg)) (bnd (q (o_140).toNatClampNeg) (fun x7_v144 => if ¬ x2_v5 = 8 then (if ¬ x5_v31 = 0 then (some (0, q, x))
  else (if ¬ x2_v5 = 6 then (cal (f_M_wrongBits q x7_v144) (fun o_216 => if x6_v37 < o_216 then (some (0, q, x))
  else (some (1, q, x))))
  else (cal (f_M_generation q x7_v144) (fun o_202 => if ¬ o_202 = x6_v37 then (some (0, q, x))
  else (some (1, q, x))))))
  else (cal (f_M_isDevice q x5_v31) (fun o_155 => if o_155 = 0 then (some (0, q, x))
  else (if ¬ x6_v37 = 0 then (some (0, q, x))
  else (cal (f_M_acceptedBy q x3_v14 x4_v22) (fun o_170 => if ¬ ((o_170 >>> (x5_v31 &&& 31)) &&& 1) = 1 then (some (0, q, x))
  else (some (1, q, x)))))))))))
  else (some (0, q, x))))))))
  else (cal (f_M_isDevice q x3_v14) (fun o_72 => if o_72 = 0 then (some (0, q, x))
  else (if ¬ (x4_v22 + x5_v31) = 0 then (some (0, q, x))
  else (cal (f_M_ofDevice q x3_v14 3) (fun o_89 => if ¬ o_89 = x6_v37 then (some (0, q, x))
  else (some (1, q, x))))))))
  else (cal (f_M_acts q x x2_v5 x3_v14 x4_v22 x5_v31 x6_v37) (fun o_60 => gd (o_60.1 = 0 ∨ o_60.1 = 1) (some (o_60.1, o_60.2.1, o_60.2.2))))))))))
def f_M_runScript_62 (q : Nat → Int32) (x : Int64) (spare : Nat → Int32) (spareX : Int64) : Option (Int32 × (Nat → Int32) × Int64 × (Nat → Int32) × Int64 × Int32) :=
  cal (f_M_fails 0 1) (fun o_64 => some (o_64.1, q, x, spare, spareX, o_64.2))
def f_M_runScript_129 (o_69 : (Nat → Int32) × Int64) (x6_129 : Int32) (q_129 : Nat → Int32) (x_129 : Int64) : Option (Int32 × (Nat → Int32) × Int64 × (Nat → Int32) × Int64 × Int32) :=
  cal (f_M_bringBack q_129 x_129 o_69.1 o_69.2) (fun o_130 => some (x6_129, o_130.1, o_130.2, o_69.1, o_69.2, 0))
def f_M_runScript_121 (k_79 : Int64 → Int32 → Int32 → (Nat → Int32) → Int64 → Option (Int32 × (Nat → Int32) × Int64 × (Nat → Int32) × Int64 × Int32)) (x4_v96 : Int64) (o_108 : Int32 × (Nat → Int32) × Int64) (x7_121 : Int32) (s0_121 : Int32) : Option (Int32 × (Nat → Int32) × Int64 × (Nat → Int32) × Int64 × Int32) :=
  k_79 x4_v96 s0_121 (x7_121 + 1) o_108.2.1 o_108.2.2
def f_M_runScript_79 (p0 : Int32) (p1 : Int64) (o_69 : (Nat → Int32) × Int64) (x4_79 : Int64) (x6_79 : Int32) (x7_79 : Int32) (q_79 : Nat → Int32) (x_79 : Int64) (k_79 : Int64 → Int32 → Int32 → (Nat → Int32) → Int64 → Option (Int32 × (Nat → Int32) × Int64 × (Nat → Int32) × Int64 × Int32)) : Option (Int32 × (Nat → Int32) × Int64 × (Nat → Int32) × Int64 × Int32) :=
  if p0 ≤ x7_79 then (f_M_runScript_129 o_69 x6_79 q_79 x_79)
  else (if 0 ≤ x6_79 then (f_M_runScript_129 o_69 x6_79 q_79 x_79)
  else (bnd (x4_79 / 100000) (fun x4_v96 => gd (¬ x4_v96 = 0) (cal (f_M_succeeds q_79 x_79 (Int64.toInt32 ((p1 / x4_v96) - (p1 / x4_v96) / 100000 * 100000))) (fun o_108 => if o_108.1 = 0 then (f_M_runScript_121 k_79 x4_v96 o_108 x7_79 x7_79)
  else (f_M_runScript_121 k_79 x4_v96 o_108 x7_79 x6_79))))))
def f_M_runScript_37 (q : Nat → Int32) (x : Int64) (spare : Nat → Int32) (spareX : Int64) (p0 : Int32) (p1 : Int64) (x4_37 : Int64) : Option (Int32 × (Nat → Int32) × Int64 × (Nat → Int32) × Int64 × Int32) :=
  cal (f_M_in (Int32.toInt64 p0) 1 3) (fun o_43 => if o_43 = 0 then (f_M_runScript_62 q x spare spareX)
  else (if (lg_cmp p1 0) < 0 then (f_M_runScript_62 q x spare spareX)
  else (if (lg_cmp p1 x4_37) < 0 then (cal (f_M_keep q x spare spareX) (fun o_69 => bnd ((-9)) (fun x6_v74 => rl5 (f_M_runScript_79 p0 p1 o_69) FUEL x4_37 x6_v74 0 q x)))
  else (f_M_runScript_62 q x spare spareX))))
def f_M_runScript_11 (q : Nat → Int32) (x : Int64) (spare : Nat → Int32) (spareX : Int64) (p0 : Int32) (p1 : Int64) (x4_11 : Int64) (x6_11 : Int32) (k_11 : Int64 → Int32 → Option (Int32 × (Nat → Int32) × Int64 × (Nat → Int32) × Int64 × Int32)) : Option (Int32 × (Nat → Int32) × Int64 × (Nat → Int32) × Int64 × Int32) :=
  if p0 ≤ x6_11 then (f_M_runScript_37 q x spare spareX p0 p1 x4_11)
  else (if 3 ≤ x6_11 then (f_M_runScript_37 q x spare spareX p0 p1 x4_11)
  else (bnd (x4_11 * 100000) (fun x4_v29 => k_11 x4_v29 (x6_11 + 1))))
def f_M_runScript (q : Nat → Int32) (x : Int64) (spare : Nat → Int32) (spareX : Int64) (thrown : Int32) (p0 : Int32) (p1 : Int64) : Option (Int32 × (Nat → Int32) × Int64 × (Nat → Int32) × Int64 × Int32) :=
  rl2 (f_M_runScript_11 q x spare spareX p0 p1) FUEL 1 0
def f_M_simulate_133 (k_92 : Int32 → Int32 → Int32 → Int64 → Option (Int32 × Int64 × Int32)) (o_111 : Int32 × Int64) (o_116 : Int32) (x10_133 : Int32) (x11_133 : Int32) (s0_133 : Int32) (s1_133 : Int32) : Option (Int32 × Int64 × Int32) :=
  bnd (s0_133 + s1_133) (fun x9_v134 => bnd (x10_133 + o_116) (fun x10_v141 => k_92 x9_v134 x10_v141 (x11_133 + 1) o_111.2))
def f_M_simulate_92 (q : Nat → Int32) (x : Int64) (p0 : Int32) (p3 : Int32) (o_67 : Int32) (x9_92 : Int32) (x10_92 : Int32) (x11_92 : Int32) (x_92 : Int64) (k_92 : Int32 → Int32 → Int32 → Int64 → Option (Int32 × Int64 × Int32)) : Option (Int32 × Int64 × Int32) :=
  if p3 ≤ x11_92 then (some ((1000 * x9_92) + x10_92, x, 0))
  else (cal (f_M_handedOn q x_92 o_67 p0 ((q 0) - 1)) (fun o_111 => cal (f_M_apart o_111.1 o_67) (fun o_116 => if ¬ o_116 = 0 then (f_M_simulate_133 k_92 o_111 o_116 x10_92 x11_92 x9_92 0)
  else (f_M_simulate_133 k_92 o_111 o_116 x10_92 x11_92 x9_92 1))))
def f_M_simulate (q : Nat → Int32) (x : Int64) (thrown : Int32) (p0 : Int32) (p1 : Int32) (p2 : Int64) (p3 : Int32) : Option (Int32 × Int64 × Int32) :=
  cal (f_M_isKey q p0 p1) (fun o_8 => if ¬ o_8 = 0 then (cal (f_M_in (Int32.toInt64 p3) 1 60) (fun o_27 => if ¬ o_27 = 0 then (cal (f_M_keyAt p0 p1) (fun o_45 => gd (¬ (o_45 < 0 ∨ 283 ≤ (o_45).toNatClampNeg)) (if 0 ≤ (q (o_45).toNatClampNeg) then (cal (f_M_keyAt p0 p1) (fun o_62 => gd (¬ (o_62 < 0 ∨ 283 ≤ (o_62).toNatClampNeg)) (cal (f_M_of q (q (o_62).toNatClampNeg) 0) (fun o_67 => rl4 (f_M_simulate_92 q x p0 p3 o_67) FUEL 0 0 0 p2))))
  else (some ((-9), x, 0)))))
  else (cal (f_M_fails 0 2) (fun o_35 => some (o_35.1, x, o_35.2)))))
  else (cal (f_M_fails 0 1) (fun o_16 => some (o_16.1, x, o_16.2))))
def f_M_save_23 (q : Nat → Int32) (x : Int64) (slotX : Nat → Int64) (isSaved : Nat → Int32) (p0 : Int32) (x2_23 : Int32) (slots_23 : Nat → Int32) (k_23 : Int32 → (Nat → Int32) → Option (Int32 × (Nat → Int32) × (Nat → Int64) × (Nat → Int32) × Int32)) : Option (Int32 × (Nat → Int32) × (Nat → Int64) × (Nat → Int32) × Int32) :=
  if 283 ≤ x2_23 then (gd (¬ (p0 < 0 ∨ 2 ≤ (p0).toNatClampNeg)) (some (q 2, slots_23, vp_updL slotX (p0).toNatClampNeg x, upd isSaved (p0).toNatClampNeg (vp_nar .boolean 1), 0)))
  else (gd (¬ (x2_23 < 0 ∨ 283 ≤ (x2_23).toNatClampNeg)) (gd (¬ (((283 * p0) + x2_23) < 0 ∨ 566 ≤ ((283 * p0) + x2_23).toNatClampNeg)) (k_23 (x2_23 + 1) (upd slots_23 ((283 * p0) + x2_23).toNatClampNeg (q (x2_23).toNatClampNeg)))))
def f_M_save (q : Nat → Int32) (x : Int64) (slots : Nat → Int32) (slotX : Nat → Int64) (isSaved : Nat → Int32) (thrown : Int32) (p0 : Int32) : Option (Int32 × (Nat → Int32) × (Nat → Int64) × (Nat → Int32) × Int32) :=
  cal (f_M_in (Int32.toInt64 p0) 0 1) (fun o_9 => if ¬ o_9 = 0 then (rl2 (f_M_save_23 q x slotX isSaved p0) FUEL 0 slots)
  else (cal (f_M_fails 0 1) (fun o_17 => some (o_17.1, slots, slotX, isSaved, o_17.2))))
def f_M_restore_38 (slots : Nat → Int32) (slotX : Nat → Int64) (p0 : Int32) (x2_38 : Int32) (q_38 : Nat → Int32) (k_38 : Int32 → (Nat → Int32) → Option (Int32 × (Nat → Int32) × Int64 × Int32 × Int32)) : Option (Int32 × (Nat → Int32) × Int64 × Int32 × Int32) :=
  if 283 ≤ x2_38 then (gd (¬ (p0 < 0 ∨ 2 ≤ (p0).toNatClampNeg)) (some (q_38 2, q_38, slotX (p0).toNatClampNeg, 0, 0)))
  else (gd (¬ (((283 * p0) + x2_38) < 0 ∨ 566 ≤ ((283 * p0) + x2_38).toNatClampNeg)) (gd (¬ (x2_38 < 0 ∨ 283 ≤ (x2_38).toNatClampNeg)) (k_38 (x2_38 + 1) (upd q_38 (x2_38).toNatClampNeg (slots ((283 * p0) + x2_38).toNatClampNeg)))))
def f_M_restore (q : Nat → Int32) (x : Int64) (states : Int32) (slots : Nat → Int32) (slotX : Nat → Int64) (isSaved : Nat → Int32) (thrown : Int32) (p0 : Int32) : Option (Int32 × (Nat → Int32) × Int64 × Int32 × Int32) :=
  cal (f_M_in (Int32.toInt64 p0) 0 1) (fun o_9 => if ¬ o_9 = 0 then (gd (¬ (p0 < 0 ∨ 2 ≤ (p0).toNatClampNeg)) (if ¬ (isSaved (p0).toNatClampNeg) = 0 then (rl2 (f_M_restore_38 slots slotX p0) FUEL 0 q)
  else (cal (f_M_fails 0 2) (fun o_32 => some (o_32.1, q, x, states, o_32.2)))))
  else (cal (f_M_fails 0 1) (fun o_17 => some (o_17.1, q, x, states, o_17.2))))
def f_L_append (b0_text_signs : Nat → Int32) (b0_text_length : Int32) (b2_out : Nat → Int64) (p1 : Int32) : Option (Int32 × (Nat → Int32) × Int32 × (Nat → Int64)) :=
  cal (f_TR_append b0_text_signs b0_text_length p1) (fun o_4 => if ¬ o_4.1 = 0 then (if o_4.1 = 2 then some (1, o_4.2.2.1, o_4.2.2.2, b2_out) else if o_4.1 = 3 then some (2, o_4.2.2.1, o_4.2.2.2, b2_out) else none)
  else (some (0, o_4.2.2.1, o_4.2.2.2, vp_updL b2_out 0 (Int32.toInt64 o_4.2.1))))
def f_L_load (b0_street_records_codes : Nat → Int32) (b0_street_records_houses : Nat → Int32) (b0_street_records_keys : Nat → Int32) (b0_street_records_parents : Nat → Int32) (b0_street_records_wrongBits : Nat → Int32) (b0_street_records_count : Int32) (b0_street_devices_houses : Nat → Int32) (b0_street_devices_codes : Nat → Int32) (b0_street_devices_tolerances : Nat → Int32) (b0_street_devices_count : Int32) (b0_street_devices_on : Int32) (b0_street_recordOfKey : Nat → Int32) (b0_street_houses : Int32) (b0_street_noise : Int32) (b0_street_reach : Int32) (b0_street_x : Int64) (b0_spare_records_codes : Nat → Int32) (b0_spare_records_houses : Nat → Int32) (b0_spare_records_keys : Nat → Int32) (b0_spare_records_parents : Nat → Int32) (b0_spare_records_wrongBits : Nat → Int32) (b0_spare_records_count : Int32) (b0_spare_devices_houses : Nat → Int32) (b0_spare_devices_codes : Nat → Int32) (b0_spare_devices_tolerances : Nat → Int32) (b0_spare_devices_count : Int32) (b0_spare_devices_on : Int32) (b0_spare_recordOfKey : Nat → Int32) (b0_spare_houses : Int32) (b0_spare_noise : Int32) (b0_spare_reach : Int32) (b0_spare_x : Int64) (b0_memory_count : Int32) (b0_slots_filled : Int32) (b0_text_signs : Nat → Int32) (b0_text_length : Int32) (b0_reader_place : Int32) (b1_out : Nat → Int64) : Option (Int32 × (Nat → Int32) × (Nat → Int32) × (Nat → Int32) × (Nat → Int32) × (Nat → Int32) × Int32 × (Nat → Int32) × (Nat → Int32) × (Nat → Int32) × Int32 × Int32 × (Nat → Int32) × Int32 × Int32 × Int32 × Int64 × (Nat → Int32) × (Nat → Int32) × (Nat → Int32) × (Nat → Int32) × (Nat → Int32) × Int32 × (Nat → Int32) × (Nat → Int32) × (Nat → Int32) × Int32 × Int32 × (Nat → Int32) × Int32 × Int32 × Int32 × Int64 × Int32 × Int32 × Int32 × (Nat → Int64)) :=
  cal (f_TR_load b0_street_records_codes b0_street_records_houses b0_street_records_keys b0_street_records_parents b0_street_records_wrongBits b0_street_records_count b0_street_devices_houses b0_street_devices_codes b0_street_devices_tolerances b0_street_devices_count b0_street_devices_on b0_street_recordOfKey b0_street_houses b0_street_noise b0_street_reach b0_street_x b0_spare_records_codes b0_spare_records_houses b0_spare_records_keys b0_spare_records_parents b0_spare_records_wrongBits b0_spare_records_count b0_spare_devices_houses b0_spare_devices_codes b0_spare_devices_tolerances b0_spare_devices_count b0_spare_devices_on b0_spare_recordOfKey b0_spare_houses b0_spare_noise b0_spare_reach b0_spare_x b0_memory_count b0_slots_filled b0_text_signs b0_text_length b0_reader_place) (fun o_3 => if ¬ o_3.1 = 0 then (if o_3.1 = 3 then some (1, o_3.2.2.1, o_3.2.2.2.1, o_3.2.2.2.2.1, o_3.2.2.2.2.2.1, o_3.2.2.2.2.2.2.1, o_3.2.2.2.2.2.2.2.1, o_3.2.2.2.2.2.2.2.2.1, o_3.2.2.2.2.2.2.2.2.2.1, o_3.2.2.2.2.2.2.2.2.2.2.1, o_3.2.2.2.2.2.2.2.2.2.2.2.1, o_3.2.2.2.2.2.2.2.2.2.2.2.2.1, o_3.2.2.2.2.2.2.2.2.2.2.2.2.2.1, o_3.2.2.2.2.2.2.2.2.2.2.2.2.2.2.1, o_3.2.2.2.2.2.2.2.2.2.2.2.2.2.2.2.1, o_3.2.2.2.2.2.2.2.2.2.2.2.2.2.2.2.2.1, o_3.2.2.2.2.2.2.2.2.2.2.2.2.2.2.2.2.2.1, o_3.2.2.2.2.2.2.2.2.2.2.2.2.2.2.2.2.2.2.1, o_3.2.2.2.2.2.2.2.2.2.2.2.2.2.2.2.2.2.2.2.1, o_3.2.2.2.2.2.2.2.2.2.2.2.2.2.2.2.2.2.2.2.2.1, o_3.2.2.2.2.2.2.2.2.2.2.2.2.2.2.2.2.2.2.2.2.2.1, o_3.2.2.2.2.2.2.2.2.2.2.2.2.2.2.2.2.2.2.2.2.2.2.1, o_3.2.2.2.2.2.2.2.2.2.2.2.2.2.2.2.2.2.2.2.2.2.2.2.1, o_3.2.2.2.2.2.2.2.2.2.2.2.2.2.2.2.2.2.2.2.2.2.2.2.2.1, o_3.2.2.2.2.2.2.2.2.2.2.2.2.2.2.2.2.2.2.2.2.2.2.2.2.2.1, o_3.2.2.2.2.2.2.2.2.2.2.2.2.2.2.2.2.2.2.2.2.2.2.2.2.2.2.1, o_3.2.2.2.2.2.2.2.2.2.2.2.2.2.2.2.2.2.2.2.2.2.2.2.2.2.2.2.1, o_3.2.2.2.2.2.2.2.2.2.2.2.2.2.2.2.2.2.2.2.2.2.2.2.2.2.2.2.2.1, o_3.2.2.2.2.2.2.2.2.2.2.2.2.2.2.2.2.2.2.2.2.2.2.2.2.2.2.2.2.2.1, o_3.2.2.2.2.2.2.2.2.2.2.2.2.2.2.2.2.2.2.2.2.2.2.2.2.2.2.2.2.2.2.1, o_3.2.2.2.2.2.2.2.2.2.2.2.2.2.2.2.2.2.2.2.2.2.2.2.2.2.2.2.2.2.2.2.1, o_3.2.2.2.2.2.2.2.2.2.2.2.2.2.2.2.2.2.2.2.2.2.2.2.2.2.2.2.2.2.2.2.2.1, o_3.2.2.2.2.2.2.2.2.2.2.2.2.2.2.2.2.2.2.2.2.2.2.2.2.2.2.2.2.2.2.2.2.2.1, o_3.2.2.2.2.2.2.2.2.2.2.2.2.2.2.2.2.2.2.2.2.2.2.2.2.2.2.2.2.2.2.2.2.2.2.1, o_3.2.2.2.2.2.2.2.2.2.2.2.2.2.2.2.2.2.2.2.2.2.2.2.2.2.2.2.2.2.2.2.2.2.2.2.1, o_3.2.2.2.2.2.2.2.2.2.2.2.2.2.2.2.2.2.2.2.2.2.2.2.2.2.2.2.2.2.2.2.2.2.2.2.2, b1_out) else none)
  else (some (0, o_3.2.2.1, o_3.2.2.2.1, o_3.2.2.2.2.1, o_3.2.2.2.2.2.1, o_3.2.2.2.2.2.2.1, o_3.2.2.2.2.2.2.2.1, o_3.2.2.2.2.2.2.2.2.1, o_3.2.2.2.2.2.2.2.2.2.1, o_3.2.2.2.2.2.2.2.2.2.2.1, o_3.2.2.2.2.2.2.2.2.2.2.2.1, o_3.2.2.2.2.2.2.2.2.2.2.2.2.1, o_3.2.2.2.2.2.2.2.2.2.2.2.2.2.1, o_3.2.2.2.2.2.2.2.2.2.2.2.2.2.2.1, o_3.2.2.2.2.2.2.2.2.2.2.2.2.2.2.2.1, o_3.2.2.2.2.2.2.2.2.2.2.2.2.2.2.2.2.1, o_3.2.2.2.2.2.2.2.2.2.2.2.2.2.2.2.2.2.1, o_3.2.2.2.2.2.2.2.2.2.2.2.2.2.2.2.2.2.2.1, o_3.2.2.2.2.2.2.2.2.2.2.2.2.2.2.2.2.2.2.2.1, o_3.2.2.2.2.2.2.2.2.2.2.2.2.2.2.2.2.2.2.2.2.1, o_3.2.2.2.2.2.2.2.2.2.2.2.2.2.2.2.2.2.2.2.2.2.1, o_3.2.2.2.2.2.2.2.2.2.2.2.2.2.2.2.2.2.2.2.2.2.2.1, o_3.2.2.2.2.2.2.2.2.2.2.2.2.2.2.2.2.2.2.2.2.2.2.2.1, o_3.2.2.2.2.2.2.2.2.2.2.2.2.2.2.2.2.2.2.2.2.2.2.2.2.1, o_3.2.2.2.2.2.2.2.2.2.2.2.2.2.2.2.2.2.2.2.2.2.2.2.2.2.1, o_3.2.2.2.2.2.2.2.2.2.2.2.2.2.2.2.2.2.2.2.2.2.2.2.2.2.2.1, o_3.2.2.2.2.2.2.2.2.2.2.2.2.2.2.2.2.2.2.2.2.2.2.2.2.2.2.2.1, o_3.2.2.2.2.2.2.2.2.2.2.2.2.2.2.2.2.2.2.2.2.2.2.2.2.2.2.2.2.1, o_3.2.2.2.2.2.2.2.2.2.2.2.2.2.2.2.2.2.2.2.2.2.2.2.2.2.2.2.2.2.1, o_3.2.2.2.2.2.2.2.2.2.2.2.2.2.2.2.2.2.2.2.2.2.2.2.2.2.2.2.2.2.2.1, o_3.2.2.2.2.2.2.2.2.2.2.2.2.2.2.2.2.2.2.2.2.2.2.2.2.2.2.2.2.2.2.2.1, o_3.2.2.2.2.2.2.2.2.2.2.2.2.2.2.2.2.2.2.2.2.2.2.2.2.2.2.2.2.2.2.2.2.1, o_3.2.2.2.2.2.2.2.2.2.2.2.2.2.2.2.2.2.2.2.2.2.2.2.2.2.2.2.2.2.2.2.2.2.1, o_3.2.2.2.2.2.2.2.2.2.2.2.2.2.2.2.2.2.2.2.2.2.2.2.2.2.2.2.2.2.2.2.2.2.2.1, o_3.2.2.2.2.2.2.2.2.2.2.2.2.2.2.2.2.2.2.2.2.2.2.2.2.2.2.2.2.2.2.2.2.2.2.2.1, o_3.2.2.2.2.2.2.2.2.2.2.2.2.2.2.2.2.2.2.2.2.2.2.2.2.2.2.2.2.2.2.2.2.2.2.2.2, vp_updL b1_out 0 (Int32.toInt64 o_3.2.1))))
def f_L_about (b0_street_records_parents : Nat → Int32) (b0_street_records_wrongBits : Nat → Int32) (b0_street_records_count : Int32) (b0_street_devices_count : Int32) (b0_street_devices_on : Int32) (b0_street_recordOfKey : Nat → Int32) (b0_street_houses : Int32) (b0_street_noise : Int32) (b0_street_reach : Int32) (b2_out : Nat → Int64) (p1 : Int32) : Option (Int32 × (Nat → Int64)) :=
  cal (f_TR_about b0_street_records_parents b0_street_records_wrongBits b0_street_records_count b0_street_devices_count b0_street_devices_on b0_street_recordOfKey b0_street_houses b0_street_noise b0_street_reach p1) (fun o_4 => if ¬ o_4.1 = 0 then (if o_4.1 = 2 then some (1, b2_out) else none)
  else (some (0, vp_updL b2_out 0 (Int32.toInt64 o_4.2))))
def f_L_key (b0_street_records_codes : Nat → Int32) (b0_street_records_houses : Nat → Int32) (b0_street_records_parents : Nat → Int32) (b0_street_records_wrongBits : Nat → Int32) (b0_street_records_count : Int32) (b0_street_recordOfKey : Nat → Int32) (b0_street_houses : Int32) (b4_out : Nat → Int64) (p1 : Int32) (p2 : Int32) (p3 : Int32) : Option (Int32 × (Nat → Int64)) :=
  cal (f_TR_key b0_street_records_codes b0_street_records_houses b0_street_records_parents b0_street_records_wrongBits b0_street_records_count b0_street_recordOfKey b0_street_houses p1 p2 p3) (fun o_7 => if ¬ o_7.1 = 0 then (if o_7.1 = 1 then some (1, b4_out) else if o_7.1 = 2 then some (2, b4_out) else none)
  else (some (0, vp_updL b4_out 0 (Int32.toInt64 o_7.2))))
def f_L_record (b0_street_records_codes : Nat → Int32) (b0_street_records_houses : Nat → Int32) (b0_street_records_keys : Nat → Int32) (b0_street_records_parents : Nat → Int32) (b0_street_records_wrongBits : Nat → Int32) (b0_street_records_count : Int32) (b0_street_recordOfKey : Nat → Int32) (b3_out : Nat → Int64) (p1 : Int32) (p2 : Int32) : Option (Int32 × (Nat → Int64)) :=
  cal (f_TR_record b0_street_records_codes b0_street_records_houses b0_street_records_keys b0_street_records_parents b0_street_records_wrongBits b0_street_records_count b0_street_recordOfKey p1 p2) (fun o_5 => if ¬ o_5.1 = 0 then (if o_5.1 = 1 then some (1, b3_out) else if o_5.1 = 2 then some (2, b3_out) else none)
  else (some (0, vp_updL b3_out 0 (Int32.toInt64 o_5.2))))
def f_L_device (b0_street_records_codes : Nat → Int32) (b0_street_records_count : Int32) (b0_street_devices_houses : Nat → Int32) (b0_street_devices_codes : Nat → Int32) (b0_street_devices_tolerances : Nat → Int32) (b0_street_devices_count : Int32) (b0_street_devices_on : Int32) (b0_street_recordOfKey : Nat → Int32) (b0_street_houses : Int32) (b3_out : Nat → Int64) (p1 : Int32) (p2 : Int32) : Option (Int32 × (Nat → Int64)) :=
  cal (f_TR_device b0_street_records_codes b0_street_records_count b0_street_devices_houses b0_street_devices_codes b0_street_devices_tolerances b0_street_devices_count b0_street_devices_on b0_street_recordOfKey b0_street_houses p1 p2) (fun o_5 => if ¬ o_5.1 = 0 then (if o_5.1 = 1 then some (1, b3_out) else if o_5.1 = 2 then some (2, b3_out) else none)
  else (some (0, vp_updL b3_out 0 (Int32.toInt64 o_5.2))))
def f_L_trace (b0_street_records_parents : Nat → Int32) (b0_street_records_count : Int32) (b0_street_recordOfKey : Nat → Int32) (b0_street_houses : Int32) (b4_out : Nat → Int64) (p1 : Int32) (p2 : Int32) (p3 : Int32) : Option (Int32 × (Nat → Int64)) :=
  cal (f_TR_trace b0_street_records_parents b0_street_records_count b0_street_recordOfKey b0_street_houses p1 p2 p3) (fun o_7 => if ¬ o_7.1 = 0 then (if o_7.1 = 1 then some (1, b4_out) else if o_7.1 = 2 then some (2, b4_out) else none)
  else (some (0, vp_updL b4_out 0 (Int32.toInt64 o_7.2))))
def f_L_wentWrong (b0_street_records_parents : Nat → Int32) (b0_street_records_wrongBits : Nat → Int32) (b0_street_records_count : Int32) (b0_street_recordOfKey : Nat → Int32) (b0_street_houses : Int32) (b3_out : Nat → Int64) (p1 : Int32) (p2 : Int32) : Option (Int32 × (Nat → Int64)) :=
  cal (f_TR_wentWrong b0_street_records_parents b0_street_records_wrongBits b0_street_records_count b0_street_recordOfKey b0_street_houses p1 p2) (fun o_5 => if ¬ o_5.1 = 0 then (if o_5.1 = 1 then some (1, b3_out) else none)
  else (some (0, vp_updL b3_out 0 (Int32.toInt64 o_5.2))))
def f_L_common (b0_street_records_parents : Nat → Int32) (b0_street_records_count : Int32) (b0_street_recordOfKey : Nat → Int32) (b0_street_houses : Int32) (b5_out : Nat → Int64) (p1 : Int32) (p2 : Int32) (p3 : Int32) (p4 : Int32) : Option (Int32 × (Nat → Int64)) :=
  cal (f_TR_common b0_street_records_parents b0_street_records_count b0_street_recordOfKey b0_street_houses p1 p2 p3 p4) (fun o_9 => if ¬ o_9.1 = 0 then (if o_9.1 = 1 then some (1, b5_out) else none)
  else (some (0, vp_updL b5_out 0 (Int32.toInt64 o_9.2))))
def f_L_accepted (b0_street_records_codes : Nat → Int32) (b0_street_records_count : Int32) (b0_street_devices_houses : Nat → Int32) (b0_street_devices_codes : Nat → Int32) (b0_street_devices_tolerances : Nat → Int32) (b0_street_devices_count : Int32) (b0_street_recordOfKey : Nat → Int32) (b0_street_houses : Int32) (b0_street_reach : Int32) (b3_out : Nat → Int64) (p1 : Int32) (p2 : Int32) : Option (Int32 × (Nat → Int64)) :=
  cal (f_TR_accepted b0_street_records_codes b0_street_records_count b0_street_devices_houses b0_street_devices_codes b0_street_devices_tolerances b0_street_devices_count b0_street_recordOfKey b0_street_houses b0_street_reach p1 p2) (fun o_5 => if ¬ o_5.1 = 0 then (if o_5.1 = 1 then some (1, b3_out) else none)
  else (some (0, vp_updL b3_out 0 (Int32.toInt64 o_5.2))))
def f_L_enter (b0_street_records_codes : Nat → Int32) (b0_street_records_houses : Nat → Int32) (b0_street_records_keys : Nat → Int32) (b0_street_records_parents : Nat → Int32) (b0_street_records_wrongBits : Nat → Int32) (b0_street_records_count : Int32) (b0_street_devices_houses : Nat → Int32) (b0_street_devices_codes : Nat → Int32) (b0_street_devices_tolerances : Nat → Int32) (b0_street_devices_count : Int32) (b0_street_devices_on : Int32) (b0_street_recordOfKey : Nat → Int32) (b0_street_houses : Int32) (b0_street_noise : Int32) (b0_street_reach : Int32) (b0_street_x : Int64) (b0_memory_states : Nat → SV) (b0_memory_oldest : Int32) (b0_memory_count : Int32) (b4_out : Nat → Int64) (p1 : Int32) (p2 : Int32) (p3 : Int32) : Option (Int32 × (Nat → Int32) × (Nat → Int32) × (Nat → Int32) × (Nat → Int32) × (Nat → Int32) × Int32 × (Nat → Int32) × (Nat → SV) × Int32 × Int32 × (Nat → Int64)) :=
  cal (f_TR_enter b0_street_records_codes b0_street_records_houses b0_street_records_keys b0_street_records_parents b0_street_records_wrongBits b0_street_records_count b0_street_devices_houses b0_street_devices_codes b0_street_devices_tolerances b0_street_devices_count b0_street_devices_on b0_street_recordOfKey b0_street_houses b0_street_noise b0_street_reach b0_street_x b0_memory_states b0_memory_oldest b0_memory_count p1 p2 p3) (fun o_7 => if ¬ o_7.1 = 0 then (if o_7.1 = 1 then some (1, o_7.2.2.1, o_7.2.2.2.1, o_7.2.2.2.2.1, o_7.2.2.2.2.2.1, o_7.2.2.2.2.2.2.1, o_7.2.2.2.2.2.2.2.1, o_7.2.2.2.2.2.2.2.2.1, o_7.2.2.2.2.2.2.2.2.2.1, o_7.2.2.2.2.2.2.2.2.2.2.1, o_7.2.2.2.2.2.2.2.2.2.2.2, b4_out) else if o_7.1 = 2 then some (2, o_7.2.2.1, o_7.2.2.2.1, o_7.2.2.2.2.1, o_7.2.2.2.2.2.1, o_7.2.2.2.2.2.2.1, o_7.2.2.2.2.2.2.2.1, o_7.2.2.2.2.2.2.2.2.1, o_7.2.2.2.2.2.2.2.2.2.1, o_7.2.2.2.2.2.2.2.2.2.2.1, o_7.2.2.2.2.2.2.2.2.2.2.2, b4_out) else if o_7.1 = 3 then some (3, o_7.2.2.1, o_7.2.2.2.1, o_7.2.2.2.2.1, o_7.2.2.2.2.2.1, o_7.2.2.2.2.2.2.1, o_7.2.2.2.2.2.2.2.1, o_7.2.2.2.2.2.2.2.2.1, o_7.2.2.2.2.2.2.2.2.2.1, o_7.2.2.2.2.2.2.2.2.2.2.1, o_7.2.2.2.2.2.2.2.2.2.2.2, b4_out) else none)
  else (some (0, o_7.2.2.1, o_7.2.2.2.1, o_7.2.2.2.2.1, o_7.2.2.2.2.2.1, o_7.2.2.2.2.2.2.1, o_7.2.2.2.2.2.2.2.1, o_7.2.2.2.2.2.2.2.2.1, o_7.2.2.2.2.2.2.2.2.2.1, o_7.2.2.2.2.2.2.2.2.2.2.1, o_7.2.2.2.2.2.2.2.2.2.2.2, vp_updL b4_out 0 (Int32.toInt64 o_7.2.1))))
def f_L_teach (b0_street_records_codes : Nat → Int32) (b0_street_records_houses : Nat → Int32) (b0_street_records_keys : Nat → Int32) (b0_street_records_parents : Nat → Int32) (b0_street_records_wrongBits : Nat → Int32) (b0_street_records_count : Int32) (b0_street_devices_houses : Nat → Int32) (b0_street_devices_codes : Nat → Int32) (b0_street_devices_tolerances : Nat → Int32) (b0_street_devices_count : Int32) (b0_street_devices_on : Int32) (b0_street_recordOfKey : Nat → Int32) (b0_street_houses : Int32) (b0_street_noise : Int32) (b0_street_reach : Int32) (b0_street_x : Int64) (b0_memory_states : Nat → SV) (b0_memory_oldest : Int32) (b0_memory_count : Int32) (b5_out : Nat → Int64) (p1 : Int32) (p2 : Int32) (p3 : Int32) (p4 : Int32) : Option (Int32 × (Nat → Int32) × (Nat → Int32) × (Nat → Int32) × (Nat → Int32) × (Nat → Int32) × Int32 × (Nat → Int32) × Int64 × (Nat → SV) × Int32 × Int32 × (Nat → Int64)) :=
  cal (f_TR_teach b0_street_records_codes b0_street_records_houses b0_street_records_keys b0_street_records_parents b0_street_records_wrongBits b0_street_records_count b0_street_devices_houses b0_street_devices_codes b0_street_devices_tolerances b0_street_devices_count b0_street_devices_on b0_street_recordOfKey b0_street_houses b0_street_noise b0_street_reach b0_street_x b0_memory_states b0_memory_oldest b0_memory_count p1 p2 p3 p4) (fun o_9 => if ¬ o_9.1 = 0 then (if o_9.1 = 1 then some (1, o_9.2.2.1, o_9.2.2.2.1, o_9.2.2.2.2.1, o_9.2.2.2.2.2.1, o_9.2.2.2.2.2.2.1, o_9.2.2.2.2.2.2.2.1, o_9.2.2.2.2.2.2.2.2.1, o_9.2.2.2.2.2.2.2.2.2.1, o_9.2.2.2.2.2.2.2.2.2.2.1, o_9.2.2.2.2.2.2.2.2.2.2.2.1, o_9.2.2.2.2.2.2.2.2.2.2.2.2, b5_out) else if o_9.1 = 2 then some (2, o_9.2.2.1, o_9.2.2.2.1, o_9.2.2.2.2.1, o_9.2.2.2.2.2.1, o_9.2.2.2.2.2.2.1, o_9.2.2.2.2.2.2.2.1, o_9.2.2.2.2.2.2.2.2.1, o_9.2.2.2.2.2.2.2.2.2.1, o_9.2.2.2.2.2.2.2.2.2.2.1, o_9.2.2.2.2.2.2.2.2.2.2.2.1, o_9.2.2.2.2.2.2.2.2.2.2.2.2, b5_out) else if o_9.1 = 3 then some (3, o_9.2.2.1, o_9.2.2.2.1, o_9.2.2.2.2.1, o_9.2.2.2.2.2.1, o_9.2.2.2.2.2.2.1, o_9.2.2.2.2.2.2.2.1, o_9.2.2.2.2.2.2.2.2.1, o_9.2.2.2.2.2.2.2.2.2.1, o_9.2.2.2.2.2.2.2.2.2.2.1, o_9.2.2.2.2.2.2.2.2.2.2.2.1, o_9.2.2.2.2.2.2.2.2.2.2.2.2, b5_out) else none)
  else (some (0, o_9.2.2.1, o_9.2.2.2.1, o_9.2.2.2.2.1, o_9.2.2.2.2.2.1, o_9.2.2.2.2.2.2.1, o_9.2.2.2.2.2.2.2.1, o_9.2.2.2.2.2.2.2.2.1, o_9.2.2.2.2.2.2.2.2.2.1, o_9.2.2.2.2.2.2.2.2.2.2.1, o_9.2.2.2.2.2.2.2.2.2.2.2.1, o_9.2.2.2.2.2.2.2.2.2.2.2.2, vp_updL b5_out 0 (Int32.toInt64 o_9.2.1))))
def f_L_erase (b0_street_records_codes : Nat → Int32) (b0_street_records_houses : Nat → Int32) (b0_street_records_keys : Nat → Int32) (b0_street_records_parents : Nat → Int32) (b0_street_records_wrongBits : Nat → Int32) (b0_street_records_count : Int32) (b0_street_devices_houses : Nat → Int32) (b0_street_devices_codes : Nat → Int32) (b0_street_devices_tolerances : Nat → Int32) (b0_street_devices_count : Int32) (b0_street_devices_on : Int32) (b0_street_recordOfKey : Nat → Int32) (b0_street_houses : Int32) (b0_street_noise : Int32) (b0_street_reach : Int32) (b0_street_x : Int64) (b0_memory_states : Nat → SV) (b0_memory_oldest : Int32) (b0_memory_count : Int32) (b3_out : Nat → Int64) (p1 : Int32) (p2 : Int32) : Option (Int32 × (Nat → Int32) × (Nat → SV) × Int32 × Int32 × (Nat → Int64)) :=
  cal (f_TR_erase b0_street_records_codes b0_street_records_houses b0_street_records_keys b0_street_records_parents b0_street_records_wrongBits b0_street_records_count b0_street_devices_houses b0_street_devices_codes b0_street_devices_tolerances b0_street_devices_count b0_street_devices_on b0_street_recordOfKey b0_street_houses b0_street_noise b0_street_reach b0_street_x b0_memory_states b0_memory_oldest b0_memory_count p1 p2) (fun o_5 => if ¬ o_5.1 = 0 then (if o_5.1 = 1 then some (1, o_5.2.2.1, o_5.2.2.2.1, o_5.2.2.2.2.1, o_5.2.2.2.2.2, b3_out) else none)
  else (some (0, o_5.2.2.1, o_5.2.2.2.1, o_5.2.2.2.2.1, o_5.2.2.2.2.2, vp_updL b3_out 0 (Int32.toInt64 o_5.2.1))))
def f_L_press (b0_street_records_codes : Nat → Int32) (b0_street_records_houses : Nat → Int32) (b0_street_records_keys : Nat → Int32) (b0_street_records_parents : Nat → Int32) (b0_street_records_wrongBits : Nat → Int32) (b0_street_records_count : Int32) (b0_street_devices_houses : Nat → Int32) (b0_street_devices_codes : Nat → Int32) (b0_street_devices_tolerances : Nat → Int32) (b0_street_devices_count : Int32) (b0_street_devices_on : Int32) (b0_street_recordOfKey : Nat → Int32) (b0_street_houses : Int32) (b0_street_noise : Int32) (b0_street_reach : Int32) (b0_street_x : Int64) (b0_memory_states : Nat → SV) (b0_memory_oldest : Int32) (b0_memory_count : Int32) (b3_out : Nat → Int64) (p1 : Int32) (p2 : Int32) : Option (Int32 × Int32 × (Nat → SV) × Int32 × Int32 × (Nat → Int64)) :=
  cal (f_TR_press b0_street_records_codes b0_street_records_houses b0_street_records_keys b0_street_records_parents b0_street_records_wrongBits b0_street_records_count b0_street_devices_houses b0_street_devices_codes b0_street_devices_tolerances b0_street_devices_count b0_street_devices_on b0_street_recordOfKey b0_street_houses b0_street_noise b0_street_reach b0_street_x b0_memory_states b0_memory_oldest b0_memory_count p1 p2) (fun o_5 => if ¬ o_5.1 = 0 then (if o_5.1 = 1 then some (1, o_5.2.2.1, o_5.2.2.2.1, o_5.2.2.2.2.1, o_5.2.2.2.2.2, b3_out) else if o_5.1 = 3 then some (2, o_5.2.2.1, o_5.2.2.2.1, o_5.2.2.2.2.1, o_5.2.2.2.2.2, b3_out) else none)
  else (some (0, o_5.2.2.1, o_5.2.2.2.1, o_5.2.2.2.2.1, o_5.2.2.2.2.2, vp_updL b3_out 0 (Int32.toInt64 o_5.2.1))))
def f_L_addDevice (b0_street_records_codes : Nat → Int32) (b0_street_records_houses : Nat → Int32) (b0_street_records_keys : Nat → Int32) (b0_street_records_parents : Nat → Int32) (b0_street_records_wrongBits : Nat → Int32) (b0_street_records_count : Int32) (b0_street_devices_houses : Nat → Int32) (b0_street_devices_codes : Nat → Int32) (b0_street_devices_tolerances : Nat → Int32) (b0_street_devices_count : Int32) (b0_street_devices_on : Int32) (b0_street_recordOfKey : Nat → Int32) (b0_street_houses : Int32) (b0_street_noise : Int32) (b0_street_reach : Int32) (b0_street_x : Int64) (b0_memory_states : Nat → SV) (b0_memory_oldest : Int32) (b0_memory_count : Int32) (b4_out : Nat → Int64) (p1 : Int32) (p2 : Int32) (p3 : Int32) : Option (Int32 × (Nat → Int32) × (Nat → Int32) × (Nat → Int32) × Int32 × (Nat → SV) × Int32 × Int32 × (Nat → Int64)) :=
  cal (f_TR_addDevice b0_street_records_codes b0_street_records_houses b0_street_records_keys b0_street_records_parents b0_street_records_wrongBits b0_street_records_count b0_street_devices_houses b0_street_devices_codes b0_street_devices_tolerances b0_street_devices_count b0_street_devices_on b0_street_recordOfKey b0_street_houses b0_street_noise b0_street_reach b0_street_x b0_memory_states b0_memory_oldest b0_memory_count p1 p2 p3) (fun o_7 => if ¬ o_7.1 = 0 then (if o_7.1 = 1 then some (1, o_7.2.2.1, o_7.2.2.2.1, o_7.2.2.2.2.1, o_7.2.2.2.2.2.1, o_7.2.2.2.2.2.2.1, o_7.2.2.2.2.2.2.2.1, o_7.2.2.2.2.2.2.2.2, b4_out) else if o_7.1 = 2 then some (2, o_7.2.2.1, o_7.2.2.2.1, o_7.2.2.2.2.1, o_7.2.2.2.2.2.1, o_7.2.2.2.2.2.2.1, o_7.2.2.2.2.2.2.2.1, o_7.2.2.2.2.2.2.2.2, b4_out) else if o_7.1 = 3 then some (3, o_7.2.2.1, o_7.2.2.2.1, o_7.2.2.2.2.1, o_7.2.2.2.2.2.1, o_7.2.2.2.2.2.2.1, o_7.2.2.2.2.2.2.2.1, o_7.2.2.2.2.2.2.2.2, b4_out) else none)
  else (some (0, o_7.2.2.1, o_7.2.2.2.1, o_7.2.2.2.2.1, o_7.2.2.2.2.2.1, o_7.2.2.2.2.2.2.1, o_7.2.2.2.2.2.2.2.1, o_7.2.2.2.2.2.2.2.2, vp_updL b4_out 0 (Int32.toInt64 o_7.2.1))))
def f_L_setTolerance (b0_street_records_codes : Nat → Int32) (b0_street_records_houses : Nat → Int32) (b0_street_records_keys : Nat → Int32) (b0_street_records_parents : Nat → Int32) (b0_street_records_wrongBits : Nat → Int32) (b0_street_records_count : Int32) (b0_street_devices_houses : Nat → Int32) (b0_street_devices_codes : Nat → Int32) (b0_street_devices_tolerances : Nat → Int32) (b0_street_devices_count : Int32) (b0_street_devices_on : Int32) (b0_street_recordOfKey : Nat → Int32) (b0_street_houses : Int32) (b0_street_noise : Int32) (b0_street_reach : Int32) (b0_street_x : Int64) (b0_memory_states : Nat → SV) (b0_memory_oldest : Int32) (b0_memory_count : Int32) (b3_out : Nat → Int64) (p1 : Int32) (p2 : Int32) : Option (Int32 × (Nat → Int32) × (Nat → SV) × Int32 × Int32 × (Nat → Int64)) :=
  cal (f_TR_setTolerance b0_street_records_codes b0_street_records_houses b0_street_records_keys b0_street_records_parents b0_street_records_wrongBits b0_street_records_count b0_street_devices_houses b0_street_devices_codes b0_street_devices_tolerances b0_street_devices_count b0_street_devices_on b0_street_recordOfKey b0_street_houses b0_street_noise b0_street_reach b0_street_x b0_memory_states b0_memory_oldest b0_memory_count p1 p2) (fun o_5 => if ¬ o_5.1 = 0 then (if o_5.1 = 1 then some (1, o_5.2.2.1, o_5.2.2.2.1, o_5.2.2.2.2.1, o_5.2.2.2.2.2, b3_out) else if o_5.1 = 2 then some (2, o_5.2.2.1, o_5.2.2.2.1, o_5.2.2.2.2.1, o_5.2.2.2.2.2, b3_out) else none)
  else (some (0, o_5.2.2.1, o_5.2.2.2.1, o_5.2.2.2.2.1, o_5.2.2.2.2.2, vp_updL b3_out 0 (Int32.toInt64 o_5.2.1))))
def f_L_set (b0_street_records_codes : Nat → Int32) (b0_street_records_houses : Nat → Int32) (b0_street_records_keys : Nat → Int32) (b0_street_records_parents : Nat → Int32) (b0_street_records_wrongBits : Nat → Int32) (b0_street_records_count : Int32) (b0_street_devices_houses : Nat → Int32) (b0_street_devices_codes : Nat → Int32) (b0_street_devices_tolerances : Nat → Int32) (b0_street_devices_count : Int32) (b0_street_devices_on : Int32) (b0_street_recordOfKey : Nat → Int32) (b0_street_houses : Int32) (b0_street_noise : Int32) (b0_street_reach : Int32) (b0_street_x : Int64) (b0_memory_states : Nat → SV) (b0_memory_oldest : Int32) (b0_memory_count : Int32) (b3_out : Nat → Int64) (p1 : Int32) (p2 : Int32) : Option (Int32 × Int32 × Int32 × (Nat → SV) × Int32 × Int32 × (Nat → Int64)) :=
  cal (f_TR_set b0_street_records_codes b0_street_records_houses b0_street_records_keys b0_street_records_parents b0_street_records_wrongBits b0_street_records_count b0_street_devices_houses b0_street_devices_codes b0_street_devices_tolerances b0_street_devices_count b0_street_devices_on b0_street_recordOfKey b0_street_houses b0_street_noise b0_street_reach b0_street_x b0_memory_states b0_memory_oldest b0_memory_count p1 p2) (fun o_5 => if ¬ o_5.1 = 0 then (if o_5.1 = 2 then some (1, o_5.2.2.1, o_5.2.2.2.1, o_5.2.2.2.2.1, o_5.2.2.2.2.2.1, o_5.2.2.2.2.2.2, b3_out) else none)
  else (some (0, o_5.2.2.1, o_5.2.2.2.1, o_5.2.2.2.2.1, o_5.2.2.2.2.2.1, o_5.2.2.2.2.2.2, vp_updL b3_out 0 (Int32.toInt64 o_5.2.1))))
def f_L_undo (b0_street_records_codes : Nat → Int32) (b0_street_records_houses : Nat → Int32) (b0_street_records_keys : Nat → Int32) (b0_street_records_parents : Nat → Int32) (b0_street_records_wrongBits : Nat → Int32) (b0_street_records_count : Int32) (b0_street_devices_houses : Nat → Int32) (b0_street_devices_codes : Nat → Int32) (b0_street_devices_tolerances : Nat → Int32) (b0_street_devices_count : Int32) (b0_street_devices_on : Int32) (b0_street_recordOfKey : Nat → Int32) (b0_street_houses : Int32) (b0_street_noise : Int32) (b0_street_reach : Int32) (b0_street_x : Int64) (b0_memory_states : Nat → SV) (b0_memory_oldest : Int32) (b0_memory_count : Int32) (b1_out : Nat → Int64) : Option (Int32 × (Nat → Int32) × (Nat → Int32) × (Nat → Int32) × (Nat → Int32) × (Nat → Int32) × Int32 × (Nat → Int32) × (Nat → Int32) × (Nat → Int32) × Int32 × Int32 × (Nat → Int32) × Int32 × Int32 × Int32 × Int64 × Int32 × (Nat → Int64)) :=
  cal (f_TR_undo b0_street_records_codes b0_street_records_houses b0_street_records_keys b0_street_records_parents b0_street_records_wrongBits b0_street_records_count b0_street_devices_houses b0_street_devices_codes b0_street_devices_tolerances b0_street_devices_count b0_street_devices_on b0_street_recordOfKey b0_street_houses b0_street_noise b0_street_reach b0_street_x b0_memory_states b0_memory_oldest b0_memory_count) (fun o_3 => if ¬ o_3.1 = 0 then (if o_3.1 = 3 then some (1, o_3.2.2.1, o_3.2.2.2.1, o_3.2.2.2.2.1, o_3.2.2.2.2.2.1, o_3.2.2.2.2.2.2.1, o_3.2.2.2.2.2.2.2.1, o_3.2.2.2.2.2.2.2.2.1, o_3.2.2.2.2.2.2.2.2.2.1, o_3.2.2.2.2.2.2.2.2.2.2.1, o_3.2.2.2.2.2.2.2.2.2.2.2.1, o_3.2.2.2.2.2.2.2.2.2.2.2.2.1, o_3.2.2.2.2.2.2.2.2.2.2.2.2.2.1, o_3.2.2.2.2.2.2.2.2.2.2.2.2.2.2.1, o_3.2.2.2.2.2.2.2.2.2.2.2.2.2.2.2.1, o_3.2.2.2.2.2.2.2.2.2.2.2.2.2.2.2.2.1, o_3.2.2.2.2.2.2.2.2.2.2.2.2.2.2.2.2.2.1, o_3.2.2.2.2.2.2.2.2.2.2.2.2.2.2.2.2.2.2, b1_out) else none)
  else (some (0, o_3.2.2.1, o_3.2.2.2.1, o_3.2.2.2.2.1, o_3.2.2.2.2.2.1, o_3.2.2.2.2.2.2.1, o_3.2.2.2.2.2.2.2.1, o_3.2.2.2.2.2.2.2.2.1, o_3.2.2.2.2.2.2.2.2.2.1, o_3.2.2.2.2.2.2.2.2.2.2.1, o_3.2.2.2.2.2.2.2.2.2.2.2.1, o_3.2.2.2.2.2.2.2.2.2.2.2.2.1, o_3.2.2.2.2.2.2.2.2.2.2.2.2.2.1, o_3.2.2.2.2.2.2.2.2.2.2.2.2.2.2.1, o_3.2.2.2.2.2.2.2.2.2.2.2.2.2.2.2.1, o_3.2.2.2.2.2.2.2.2.2.2.2.2.2.2.2.2.1, o_3.2.2.2.2.2.2.2.2.2.2.2.2.2.2.2.2.2.1, o_3.2.2.2.2.2.2.2.2.2.2.2.2.2.2.2.2.2.2, vp_updL b1_out 0 (Int32.toInt64 o_3.2.1))))
def f_L_wouldBe (b0_street_records_codes : Nat → Int32) (b0_street_records_count : Int32) (b0_street_recordOfKey : Nat → Int32) (b0_street_houses : Int32) (b0_street_noise : Int32) (b0_street_x : Int64) (b4_out : Nat → Int64) (p1 : Int32) (p2 : Int32) (p3 : Int32) : Option (Int32 × (Nat → Int64)) :=
  cal (f_TR_wouldBe b0_street_records_codes b0_street_records_count b0_street_recordOfKey b0_street_houses b0_street_noise b0_street_x p1 p2 p3) (fun o_7 => if ¬ o_7.1 = 0 then (if o_7.1 = 1 then some (1, b4_out) else none)
  else (some (0, vp_updL b4_out 0 (Int32.toInt64 o_7.2))))
def f_L_handed (b0_street_records_codes : Nat → Int32) (b0_street_records_count : Int32) (b0_street_recordOfKey : Nat → Int32) (b0_street_houses : Int32) (b0_street_noise : Int32) (b0_street_x : Int64) (b4_out : Nat → Int64) (p1 : Int32) (p2 : Int32) (p3 : Int32) : Option (Int32 × (Nat → Int64)) :=
  cal (f_TR_handed b0_street_records_codes b0_street_records_count b0_street_recordOfKey b0_street_houses b0_street_noise b0_street_x p1 p2 p3) (fun o_7 => if ¬ o_7.1 = 0 then (if o_7.1 = 1 then some (1, b4_out) else none)
  else (some (0, vp_updL b4_out 0 (Int32.toInt64 o_7.2))))
def f_L_bestTeacher (b0_street_records_codes : Nat → Int32) (b0_street_records_count : Int32) (b0_street_devices_codes : Nat → Int32) (b0_street_devices_count : Int32) (b0_street_recordOfKey : Nat → Int32) (b0_street_houses : Int32) (b0_street_noise : Int32) (b0_street_x : Int64) (b3_out : Nat → Int64) (p1 : Int32) (p2 : Int32) : Option (Int32 × (Nat → Int64)) :=
  cal (f_TR_bestTeacher b0_street_records_codes b0_street_records_count b0_street_devices_codes b0_street_devices_count b0_street_recordOfKey b0_street_houses b0_street_noise b0_street_x p1 p2) (fun o_5 => if ¬ o_5.1 = 0 then (if o_5.1 = 1 then some (1, b3_out) else none)
  else (some (0, vp_updL b3_out 0 (Int32.toInt64 o_5.2))))
def f_L_leastTolerance (b0_street_records_codes : Nat → Int32) (b0_street_records_parents : Nat → Int32) (b0_street_records_count : Int32) (b0_street_devices_codes : Nat → Int32) (b0_street_devices_count : Int32) (b0_street_recordOfKey : Nat → Int32) (b2_out : Nat → Int64) (p1 : Int32) : Option (Int32 × (Nat → Int64)) :=
  cal (f_TR_leastTolerance b0_street_records_codes b0_street_records_parents b0_street_records_count b0_street_devices_codes b0_street_devices_count b0_street_recordOfKey p1) (fun o_4 => if ¬ o_4.1 = 0 then (if o_4.1 = 1 then some (1, b2_out) else none)
  else (some (0, vp_updL b2_out 0 (Int32.toInt64 o_4.2))))
def f_L_runScript (b0_street_records_codes : Nat → Int32) (b0_street_records_houses : Nat → Int32) (b0_street_records_keys : Nat → Int32) (b0_street_records_parents : Nat → Int32) (b0_street_records_wrongBits : Nat → Int32) (b0_street_records_count : Int32) (b0_street_devices_houses : Nat → Int32) (b0_street_devices_codes : Nat → Int32) (b0_street_devices_tolerances : Nat → Int32) (b0_street_devices_count : Int32) (b0_street_devices_on : Int32) (b0_street_recordOfKey : Nat → Int32) (b0_street_houses : Int32) (b0_street_noise : Int32) (b0_street_reach : Int32) (b0_street_x : Int64) (b0_spare_records_codes : Nat → Int32) (b0_spare_records_houses : Nat → Int32) (b0_spare_records_keys : Nat → Int32) (b0_spare_records_parents : Nat → Int32) (b0_spare_records_wrongBits : Nat → Int32) (b0_spare_records_count : Int32) (b0_spare_devices_houses : Nat → Int32) (b0_spare_devices_codes : Nat → Int32) (b0_spare_devices_tolerances : Nat → Int32) (b0_spare_devices_count : Int32) (b0_spare_devices_on : Int32) (b0_spare_recordOfKey : Nat → Int32) (b0_spare_houses : Int32) (b0_spare_noise : Int32) (b0_spare_reach : Int32) (b0_spare_x : Int64) (b3_out : Nat → Int64) (p1 : Int32) (p2 : Int64) : Option (Int32 × (Nat → Int32) × (Nat → Int32) × (Nat → Int32) × (Nat → Int32) × (Nat → Int32) × Int32 × (Nat → Int32) × (Nat → Int32) × (Nat → Int32) × Int32 × Int32 × (Nat → Int32) × Int32 × Int32 × Int32 × Int64 × (Nat → Int64)) :=
  cal (f_TR_runScript b0_street_records_codes b0_street_records_houses b0_street_records_keys b0_street_records_parents b0_street_records_wrongBits b0_street_records_count b0_street_devices_houses b0_street_devices_codes b0_street_devices_tolerances b0_street_devices_count b0_street_devices_on b0_street_recordOfKey b0_street_houses b0_street_noise b0_street_reach b0_street_x b0_spare_records_codes b0_spare_records_houses b0_spare_records_keys b0_spare_records_parents b0_spare_records_wrongBits b0_spare_records_count b0_spare_devices_houses b0_spare_devices_codes b0_spare_devices_tolerances b0_spare_devices_count b0_spare_devices_on b0_spare_recordOfKey b0_spare_houses b0_spare_noise b0_spare_reach b0_spare_x p1 p2) (fun o_6 => if ¬ o_6.1 = 0 then (if o_6.1 = 2 then some (1, o_6.2.2.1, o_6.2.2.2.1, o_6.2.2.2.2.1, o_6.2.2.2.2.2.1, o_6.2.2.2.2.2.2.1, o_6.2.2.2.2.2.2.2.1, o_6.2.2.2.2.2.2.2.2.1, o_6.2.2.2.2.2.2.2.2.2.1, o_6.2.2.2.2.2.2.2.2.2.2.1, o_6.2.2.2.2.2.2.2.2.2.2.2.1, o_6.2.2.2.2.2.2.2.2.2.2.2.2.1, o_6.2.2.2.2.2.2.2.2.2.2.2.2.2.1, o_6.2.2.2.2.2.2.2.2.2.2.2.2.2.2.1, o_6.2.2.2.2.2.2.2.2.2.2.2.2.2.2.2.1, o_6.2.2.2.2.2.2.2.2.2.2.2.2.2.2.2.2.1, o_6.2.2.2.2.2.2.2.2.2.2.2.2.2.2.2.2.2, b3_out) else none)
  else (some (0, o_6.2.2.1, o_6.2.2.2.1, o_6.2.2.2.2.1, o_6.2.2.2.2.2.1, o_6.2.2.2.2.2.2.1, o_6.2.2.2.2.2.2.2.1, o_6.2.2.2.2.2.2.2.2.1, o_6.2.2.2.2.2.2.2.2.2.1, o_6.2.2.2.2.2.2.2.2.2.2.1, o_6.2.2.2.2.2.2.2.2.2.2.2.1, o_6.2.2.2.2.2.2.2.2.2.2.2.2.1, o_6.2.2.2.2.2.2.2.2.2.2.2.2.2.1, o_6.2.2.2.2.2.2.2.2.2.2.2.2.2.2.1, o_6.2.2.2.2.2.2.2.2.2.2.2.2.2.2.2.1, o_6.2.2.2.2.2.2.2.2.2.2.2.2.2.2.2.2.1, o_6.2.2.2.2.2.2.2.2.2.2.2.2.2.2.2.2.2, vp_updL b3_out 0 (Int32.toInt64 o_6.2.1))))
def f_L_simulate (b0_street_records_codes : Nat → Int32) (b0_street_records_count : Int32) (b0_street_recordOfKey : Nat → Int32) (b0_street_houses : Int32) (b0_street_noise : Int32) (b5_out : Nat → Int64) (p1 : Int32) (p2 : Int32) (p3 : Int64) (p4 : Int32) : Option (Int32 × (Nat → Int64)) :=
  cal (f_TR_simulate b0_street_records_codes b0_street_records_count b0_street_recordOfKey b0_street_houses b0_street_noise p1 p2 p3 p4) (fun o_9 => if ¬ o_9.1 = 0 then (if o_9.1 = 1 then some (1, b5_out) else if o_9.1 = 2 then some (2, b5_out) else none)
  else (some (0, vp_updL b5_out 0 (Int32.toInt64 o_9.2))))
def f_L_save (b0_street_records_codes : Nat → Int32) (b0_street_records_houses : Nat → Int32) (b0_street_records_keys : Nat → Int32) (b0_street_records_parents : Nat → Int32) (b0_street_records_wrongBits : Nat → Int32) (b0_street_records_count : Int32) (b0_street_devices_houses : Nat → Int32) (b0_street_devices_codes : Nat → Int32) (b0_street_devices_tolerances : Nat → Int32) (b0_street_devices_count : Int32) (b0_street_devices_on : Int32) (b0_street_recordOfKey : Nat → Int32) (b0_street_houses : Int32) (b0_street_noise : Int32) (b0_street_reach : Int32) (b0_street_x : Int64) (b0_slots_states : Nat → SV) (b0_slots_filled : Int32) (b2_out : Nat → Int64) (p1 : Int32) : Option (Int32 × (Nat → SV) × Int32 × (Nat → Int64)) :=
  cal (f_TR_save b0_street_records_codes b0_street_records_houses b0_street_records_keys b0_street_records_parents b0_street_records_wrongBits b0_street_records_count b0_street_devices_houses b0_street_devices_codes b0_street_devices_tolerances b0_street_devices_count b0_street_devices_on b0_street_recordOfKey b0_street_houses b0_street_noise b0_street_reach b0_street_x b0_slots_states b0_slots_filled p1) (fun o_4 => if ¬ o_4.1 = 0 then (if o_4.1 = 1 then some (1, o_4.2.2.1, o_4.2.2.2, b2_out) else none)
  else (some (0, o_4.2.2.1, o_4.2.2.2, vp_updL b2_out 0 (Int32.toInt64 o_4.2.1))))
def f_L_restore (b0_street_records_codes : Nat → Int32) (b0_street_records_houses : Nat → Int32) (b0_street_records_keys : Nat → Int32) (b0_street_records_parents : Nat → Int32) (b0_street_records_wrongBits : Nat → Int32) (b0_street_records_count : Int32) (b0_street_devices_houses : Nat → Int32) (b0_street_devices_codes : Nat → Int32) (b0_street_devices_tolerances : Nat → Int32) (b0_street_devices_count : Int32) (b0_street_devices_on : Int32) (b0_street_recordOfKey : Nat → Int32) (b0_street_houses : Int32) (b0_street_noise : Int32) (b0_street_reach : Int32) (b0_street_x : Int64) (b0_memory_count : Int32) (b0_slots_states : Nat → SV) (b0_slots_filled : Int32) (b2_out : Nat → Int64) (p1 : Int32) : Option (Int32 × (Nat → Int32) × (Nat → Int32) × (Nat → Int32) × (Nat → Int32) × (Nat → Int32) × Int32 × (Nat → Int32) × (Nat → Int32) × (Nat → Int32) × Int32 × Int32 × (Nat → Int32) × Int32 × Int32 × Int32 × Int64 × Int32 × (Nat → Int64)) :=
  cal (f_TR_restore b0_street_records_codes b0_street_records_houses b0_street_records_keys b0_street_records_parents b0_street_records_wrongBits b0_street_records_count b0_street_devices_houses b0_street_devices_codes b0_street_devices_tolerances b0_street_devices_count b0_street_devices_on b0_street_recordOfKey b0_street_houses b0_street_noise b0_street_reach b0_street_x b0_memory_count b0_slots_states b0_slots_filled p1) (fun o_4 => if ¬ o_4.1 = 0 then (if o_4.1 = 1 then some (1, o_4.2.2.1, o_4.2.2.2.1, o_4.2.2.2.2.1, o_4.2.2.2.2.2.1, o_4.2.2.2.2.2.2.1, o_4.2.2.2.2.2.2.2.1, o_4.2.2.2.2.2.2.2.2.1, o_4.2.2.2.2.2.2.2.2.2.1, o_4.2.2.2.2.2.2.2.2.2.2.1, o_4.2.2.2.2.2.2.2.2.2.2.2.1, o_4.2.2.2.2.2.2.2.2.2.2.2.2.1, o_4.2.2.2.2.2.2.2.2.2.2.2.2.2.1, o_4.2.2.2.2.2.2.2.2.2.2.2.2.2.2.1, o_4.2.2.2.2.2.2.2.2.2.2.2.2.2.2.2.1, o_4.2.2.2.2.2.2.2.2.2.2.2.2.2.2.2.2.1, o_4.2.2.2.2.2.2.2.2.2.2.2.2.2.2.2.2.2.1, o_4.2.2.2.2.2.2.2.2.2.2.2.2.2.2.2.2.2.2, b2_out) else if o_4.1 = 3 then some (2, o_4.2.2.1, o_4.2.2.2.1, o_4.2.2.2.2.1, o_4.2.2.2.2.2.1, o_4.2.2.2.2.2.2.1, o_4.2.2.2.2.2.2.2.1, o_4.2.2.2.2.2.2.2.2.1, o_4.2.2.2.2.2.2.2.2.2.1, o_4.2.2.2.2.2.2.2.2.2.2.1, o_4.2.2.2.2.2.2.2.2.2.2.2.1, o_4.2.2.2.2.2.2.2.2.2.2.2.2.1, o_4.2.2.2.2.2.2.2.2.2.2.2.2.2.1, o_4.2.2.2.2.2.2.2.2.2.2.2.2.2.2.1, o_4.2.2.2.2.2.2.2.2.2.2.2.2.2.2.2.1, o_4.2.2.2.2.2.2.2.2.2.2.2.2.2.2.2.2.1, o_4.2.2.2.2.2.2.2.2.2.2.2.2.2.2.2.2.2.1, o_4.2.2.2.2.2.2.2.2.2.2.2.2.2.2.2.2.2.2, b2_out) else none)
  else (some (0, o_4.2.2.1, o_4.2.2.2.1, o_4.2.2.2.2.1, o_4.2.2.2.2.2.1, o_4.2.2.2.2.2.2.1, o_4.2.2.2.2.2.2.2.1, o_4.2.2.2.2.2.2.2.2.1, o_4.2.2.2.2.2.2.2.2.2.1, o_4.2.2.2.2.2.2.2.2.2.2.1, o_4.2.2.2.2.2.2.2.2.2.2.2.1, o_4.2.2.2.2.2.2.2.2.2.2.2.2.1, o_4.2.2.2.2.2.2.2.2.2.2.2.2.2.1, o_4.2.2.2.2.2.2.2.2.2.2.2.2.2.2.1, o_4.2.2.2.2.2.2.2.2.2.2.2.2.2.2.2.1, o_4.2.2.2.2.2.2.2.2.2.2.2.2.2.2.2.2.1, o_4.2.2.2.2.2.2.2.2.2.2.2.2.2.2.2.2.2.1, o_4.2.2.2.2.2.2.2.2.2.2.2.2.2.2.2.2.2.2, vp_updL b2_out 0 (Int32.toInt64 o_4.2.1))))
end
