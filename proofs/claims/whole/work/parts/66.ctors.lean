/-! the constructors -/
theorem oi_in : Cond.instanceMethod Lib.objectInit ∈ gt := gt_in (tin1 (List.mem_of_getElem? (l := tables_1_1) (i := 22) (by decide +kernel))) rfl
theorem oi_co : Cond.code Lib.objectInit ⟨#[0xb1]⟩ 1 none ∈ gt := gt_in (tin1 (List.mem_of_getElem? (l := tables_1_1) (i := 23) (by decide +kernel))) rfl
theorem ar_I : Cond.arrayClass .int ∈ gt := gt_in (tin1 (List.mem_of_getElem? (l := tables_1_1) (i := 49) (by decide +kernel))) rfl
theorem ar_J : Cond.arrayClass .long ∈ gt := gt_in (tin1 (List.mem_of_getElem? (l := tables_1_1) (i := 218) (by decide +kernel))) rfl
theorem oiX0 : Cond.methodLink RX0 3 Lib.objectInit ∈ gt := gt_in (tin1 (List.mem_of_getElem? (l := tables_1_1) (i := 97) (by decide +kernel))) rfl
theorem ffX0_0 : FF RX0 0 0 := ⟨(RX0, TX0, 2), rfl, by decide +kernel, by decide +kernel, .object "TakenShade$Roll", by decide +kernel, fun _ => rfl, fun _ => rfl⟩
theorem ffX0_1 : FF RX0 0 1 := ⟨(RX0, TX0, 2), rfl, by decide +kernel, by decide +kernel, .array .int, by decide +kernel, fun _ => rfl, fun _ => rfl⟩
theorem nwX0 : NWd 0 2 [.null, .null] := ⟨(RX0, TX0, 2), tyX0, rfl, rfl, tyX0_ok, fun j hj => by
  have h9 : j < 2 := hj
  match j, h9 with
  | 0, _ => rfl
  | 1, _ => rfl
  | j + 2, h9 => exact absurd h9 (by omega), gt_in (tin1 (List.mem_of_getElem? (l := tables_1_1) (i := 93) (by decide +kernel))) rfl, gt_in (tin1 (List.mem_of_getElem? (l := tables_1_1) (i := 6) (by decide +kernel))) rfl⟩
theorem oiX1 : Cond.methodLink RX1 3 Lib.objectInit ∈ gt := gt_in (tin1 (List.mem_of_getElem? (l := tables_1_1) (i := 207) (by decide +kernel))) rfl
theorem ffX1_0 : FF RX1 1 0 := ⟨(RX1, TX1, 3), rfl, by decide +kernel, by decide +kernel, .array .long, by decide +kernel, fun _ => rfl, fun _ => rfl⟩
theorem nwX1 : NWd 1 3 [.null, vL 0, vL 0] := ⟨(RX1, TX1, 3), tyX1, rfl, rfl, tyX1_ok, fun j hj => by
  have h9 : j < 3 := hj
  match j, h9 with
  | 0, _ => rfl
  | 1, _ => rfl
  | 2, _ => rfl
  | j + 3, h9 => exact absurd h9 (by omega), gt_in (tin1 (List.mem_of_getElem? (l := tables_1_1) (i := 203) (by decide +kernel))) rfl, gt_in (tin1 (List.mem_of_getElem? (l := tables_1_1) (i := 12) (by decide +kernel))) rfl⟩
theorem oiX2 : Cond.methodLink RX2 3 Lib.objectInit ∈ gt := gt_in (tin1 (List.mem_of_getElem? (l := tables_1_1) (i := 170) (by decide +kernel))) rfl
theorem ffX2_0 : FF RX2 2 0 := ⟨(RX2, TX2, 3), rfl, by decide +kernel, by decide +kernel, .array .int, by decide +kernel, fun _ => rfl, fun _ => rfl⟩
theorem ffX2_1 : FF RX2 2 1 := ⟨(RX2, TX2, 3), rfl, by decide +kernel, by decide +kernel, .array .int, by decide +kernel, fun _ => rfl, fun _ => rfl⟩
theorem ffX2_2 : FF RX2 2 2 := ⟨(RX2, TX2, 3), rfl, by decide +kernel, by decide +kernel, .array .int, by decide +kernel, fun _ => rfl, fun _ => rfl⟩
theorem nwX2 : NWd 2 3 [.null, .null, .null] := ⟨(RX2, TX2, 3), tyX2, rfl, rfl, tyX2_ok, fun j hj => by
  have h9 : j < 3 := hj
  match j, h9 with
  | 0, _ => rfl
  | 1, _ => rfl
  | 2, _ => rfl
  | j + 3, h9 => exact absurd h9 (by omega), gt_in (tin1 (List.mem_of_getElem? (l := tables_1_1) (i := 166) (by decide +kernel))) rfl, gt_in (tin1 (List.mem_of_getElem? (l := tables_1_1) (i := 9) (by decide +kernel))) rfl⟩
theorem oiX3 : Cond.methodLink RX3 3 Lib.objectInit ∈ gt := gt_in (tin1 (List.mem_of_getElem? (l := tables_1_1) (i := 114) (by decide +kernel))) rfl
theorem ffX3_0 : FF RX3 3 0 := ⟨(RX3, TX3, 12), rfl, by decide +kernel, by decide +kernel, .object "TakenShade$People", by decide +kernel, fun _ => rfl, fun _ => rfl⟩
theorem ffX3_1 : FF RX3 3 1 := ⟨(RX3, TX3, 12), rfl, by decide +kernel, by decide +kernel, .object "TakenShade$Pictures", by decide +kernel, fun _ => rfl, fun _ => rfl⟩
theorem ffX3_2 : FF RX3 3 2 := ⟨(RX3, TX3, 12), rfl, by decide +kernel, by decide +kernel, .object "TakenShade$Burnings", by decide +kernel, fun _ => rfl, fun _ => rfl⟩
theorem ffX3_3 : FF RX3 3 3 := ⟨(RX3, TX3, 12), rfl, by decide +kernel, by decide +kernel, .array .int, by decide +kernel, fun _ => rfl, fun _ => rfl⟩
theorem ffX3_4 : FF RX3 3 4 := ⟨(RX3, TX3, 12), rfl, by decide +kernel, by decide +kernel, .array .int, by decide +kernel, fun _ => rfl, fun _ => rfl⟩
theorem ffX3_5 : FF RX3 3 5 := ⟨(RX3, TX3, 12), rfl, by decide +kernel, by decide +kernel, .array .int, by decide +kernel, fun _ => rfl, fun _ => rfl⟩
theorem nwX3 : NWd 3 12 [.null, .null, .null, .null, .null, .null, vI 0, vI 0, vI 0, vI 0, vI 0, vI 0] := ⟨(RX3, TX3, 12), tyX3, rfl, rfl, tyX3_ok, fun j hj => by
  have h9 : j < 12 := hj
  match j, h9 with
  | 0, _ => rfl
  | 1, _ => rfl
  | 2, _ => rfl
  | 3, _ => rfl
  | 4, _ => rfl
  | 5, _ => rfl
  | 6, _ => rfl
  | 7, _ => rfl
  | 8, _ => rfl
  | 9, _ => rfl
  | 10, _ => rfl
  | 11, _ => rfl
  | j + 12, h9 => exact absurd h9 (by omega), gt_in (tin1 (List.mem_of_getElem? (l := tables_1_1) (i := 110) (by decide +kernel))) rfl, gt_in (tin1 (List.mem_of_getElem? (l := tables_1_1) (i := 7) (by decide +kernel))) rfl⟩
theorem oiX4 : Cond.methodLink RX4 3 Lib.objectInit ∈ gt := gt_in (tin1 (List.mem_of_getElem? (l := tables_1_1) (i := 29) (by decide +kernel))) rfl
theorem ffX4_0 : FF RX4 4 0 := ⟨(RX4, TX4, 6), rfl, by decide +kernel, by decide +kernel, .array .int, by decide +kernel, fun _ => rfl, fun _ => rfl⟩
theorem ffX4_1 : FF RX4 4 1 := ⟨(RX4, TX4, 6), rfl, by decide +kernel, by decide +kernel, .array .int, by decide +kernel, fun _ => rfl, fun _ => rfl⟩
theorem ffX4_2 : FF RX4 4 2 := ⟨(RX4, TX4, 6), rfl, by decide +kernel, by decide +kernel, .array .int, by decide +kernel, fun _ => rfl, fun _ => rfl⟩
theorem nwX4 : NWd 4 6 [.null, .null, .null, vI 0, vI 0, vI 0] := ⟨(RX4, TX4, 6), tyX4, rfl, rfl, tyX4_ok, fun j hj => by
  have h9 : j < 6 := hj
  match j, h9 with
  | 0, _ => rfl
  | 1, _ => rfl
  | 2, _ => rfl
  | 3, _ => rfl
  | 4, _ => rfl
  | 5, _ => rfl
  | j + 6, h9 => exact absurd h9 (by omega), gt_in (tin1 (List.mem_of_getElem? (l := tables_1_1) (i := 25) (by decide +kernel))) rfl, gt_in (tin1 (List.mem_of_getElem? (l := tables_1_1) (i := 2) (by decide +kernel))) rfl⟩
theorem oiX5 : Cond.methodLink RX5 3 Lib.objectInit ∈ gt := gt_in (tin1 (List.mem_of_getElem? (l := tables_1_1) (i := 55) (by decide +kernel))) rfl
theorem ffX5_0 : FF RX5 5 0 := ⟨(RX5, TX5, 4), rfl, by decide +kernel, by decide +kernel, .object "TakenShade$Roll", by decide +kernel, fun _ => rfl, fun _ => rfl⟩
theorem ffX5_1 : FF RX5 5 1 := ⟨(RX5, TX5, 4), rfl, by decide +kernel, by decide +kernel, .array .int, by decide +kernel, fun _ => rfl, fun _ => rfl⟩
theorem ffX5_2 : FF RX5 5 2 := ⟨(RX5, TX5, 4), rfl, by decide +kernel, by decide +kernel, .array .int, by decide +kernel, fun _ => rfl, fun _ => rfl⟩
theorem ffX5_3 : FF RX5 5 3 := ⟨(RX5, TX5, 4), rfl, by decide +kernel, by decide +kernel, .array .int, by decide +kernel, fun _ => rfl, fun _ => rfl⟩
theorem nwX5 : NWd 5 4 [.null, .null, .null, .null] := ⟨(RX5, TX5, 4), tyX5, rfl, rfl, tyX5_ok, fun j hj => by
  have h9 : j < 4 := hj
  match j, h9 with
  | 0, _ => rfl
  | 1, _ => rfl
  | 2, _ => rfl
  | 3, _ => rfl
  | j + 4, h9 => exact absurd h9 (by omega), gt_in (tin1 (List.mem_of_getElem? (l := tables_1_1) (i := 51) (by decide +kernel))) rfl, gt_in (tin1 (List.mem_of_getElem? (l := tables_1_1) (i := 3) (by decide +kernel))) rfl⟩
theorem oiX6 : Cond.methodLink RX6 3 Lib.objectInit ∈ gt := gt_in (tin1 (List.mem_of_getElem? (l := tables_1_1) (i := 157) (by decide +kernel))) rfl
theorem ffX6_0 : FF RX6 6 0 := ⟨(RX6, TX6, 2), rfl, by decide +kernel, by decide +kernel, .array .int, by decide +kernel, fun _ => rfl, fun _ => rfl⟩
theorem nwX6 : NWd 6 2 [.null, vI 0] := ⟨(RX6, TX6, 2), tyX6, rfl, rfl, tyX6_ok, fun j hj => by
  have h9 : j < 2 := hj
  match j, h9 with
  | 0, _ => rfl
  | 1, _ => rfl
  | j + 2, h9 => exact absurd h9 (by omega), gt_in (tin1 (List.mem_of_getElem? (l := tables_1_1) (i := 153) (by decide +kernel))) rfl, gt_in (tin1 (List.mem_of_getElem? (l := tables_1_1) (i := 8) (by decide +kernel))) rfl⟩
theorem oiX7 : Cond.methodLink RX7 3 Lib.objectInit ∈ gt := gt_in (tin1 (List.mem_of_getElem? (l := tables_1_1) (i := 61) (by decide +kernel))) rfl
theorem ffX7_0 : FF RX7 7 0 := ⟨(RX7, TX7, 3), rfl, by decide +kernel, by decide +kernel, .array .int, by decide +kernel, fun _ => rfl, fun _ => rfl⟩
theorem ffX7_1 : FF RX7 7 1 := ⟨(RX7, TX7, 3), rfl, by decide +kernel, by decide +kernel, .array .int, by decide +kernel, fun _ => rfl, fun _ => rfl⟩
theorem nwX7 : NWd 7 3 [.null, .null, vI 0] := ⟨(RX7, TX7, 3), tyX7, rfl, rfl, tyX7_ok, fun j hj => by
  have h9 : j < 3 := hj
  match j, h9 with
  | 0, _ => rfl
  | 1, _ => rfl
  | 2, _ => rfl
  | j + 3, h9 => exact absurd h9 (by omega), gt_in (tin1 (List.mem_of_getElem? (l := tables_1_1) (i := 57) (by decide +kernel))) rfl, gt_in (tin1 (List.mem_of_getElem? (l := tables_1_1) (i := 4) (by decide +kernel))) rfl⟩
theorem oiX8 : Cond.methodLink RX8 3 Lib.objectInit ∈ gt := gt_in (tin1 (List.mem_of_getElem? (l := tables_1_1) (i := 225) (by decide +kernel))) rfl
theorem ffX8_0 : FF RX8 8 0 := ⟨(RX8, TX8, 3), rfl, by decide +kernel, by decide +kernel, .array .int, by decide +kernel, fun _ => rfl, fun _ => rfl⟩
theorem nwX8 : NWd 8 3 [.null, vI 0, vI 0] := ⟨(RX8, TX8, 3), tyX8, rfl, rfl, tyX8_ok, fun j hj => by
  have h9 : j < 3 := hj
  match j, h9 with
  | 0, _ => rfl
  | 1, _ => rfl
  | 2, _ => rfl
  | j + 3, h9 => exact absurd h9 (by omega), gt_in (tin1 (List.mem_of_getElem? (l := tables_1_1) (i := 221) (by decide +kernel))) rfl, gt_in (tin1 (List.mem_of_getElem? (l := tables_1_1) (i := 13) (by decide +kernel))) rfl⟩
theorem oiX9 : Cond.methodLink RX9 3 Lib.objectInit ∈ gt := gt_in (tin1 (List.mem_of_getElem? (l := tables_1_1) (i := 189) (by decide +kernel))) rfl
theorem ffX9_0 : FF RX9 9 0 := ⟨(RX9, TX9, 3), rfl, by decide +kernel, by decide +kernel, .object "TakenShade$Roll", by decide +kernel, fun _ => rfl, fun _ => rfl⟩
theorem ffX9_1 : FF RX9 9 1 := ⟨(RX9, TX9, 3), rfl, by decide +kernel, by decide +kernel, .array .int, by decide +kernel, fun _ => rfl, fun _ => rfl⟩
theorem ffX9_2 : FF RX9 9 2 := ⟨(RX9, TX9, 3), rfl, by decide +kernel, by decide +kernel, .array .int, by decide +kernel, fun _ => rfl, fun _ => rfl⟩
theorem nwX9 : NWd 9 3 [.null, .null, .null] := ⟨(RX9, TX9, 3), tyX9, rfl, rfl, tyX9_ok, fun j hj => by
  have h9 : j < 3 := hj
  match j, h9 with
  | 0, _ => rfl
  | 1, _ => rfl
  | 2, _ => rfl
  | j + 3, h9 => exact absurd h9 (by omega), gt_in (tin1 (List.mem_of_getElem? (l := tables_1_1) (i := 185) (by decide +kernel))) rfl, gt_in (tin1 (List.mem_of_getElem? (l := tables_1_1) (i := 11) (by decide +kernel))) rfl⟩
theorem oiX10 : Cond.methodLink RX10 1 Lib.objectInit ∈ gt := gt_in (tin1 (List.mem_of_getElem? (l := tables_1_1) (i := 21) (by decide +kernel))) rfl
theorem ffX10_0 : FF RX10 10 0 := ⟨(RX10, TX10, 11), rfl, by decide +kernel, by decide +kernel, .object "TakenShade$People", by decide +kernel, fun _ => rfl, fun _ => rfl⟩
theorem ffX10_1 : FF RX10 10 1 := ⟨(RX10, TX10, 11), rfl, by decide +kernel, by decide +kernel, .object "TakenShade$Pictures", by decide +kernel, fun _ => rfl, fun _ => rfl⟩
theorem ffX10_2 : FF RX10 10 2 := ⟨(RX10, TX10, 11), rfl, by decide +kernel, by decide +kernel, .object "TakenShade$Burnings", by decide +kernel, fun _ => rfl, fun _ => rfl⟩
theorem ffX10_3 : FF RX10 10 3 := ⟨(RX10, TX10, 11), rfl, by decide +kernel, by decide +kernel, .object "TakenShade$Course", by decide +kernel, fun _ => rfl, fun _ => rfl⟩
theorem ffX10_4 : FF RX10 10 4 := ⟨(RX10, TX10, 11), rfl, by decide +kernel, by decide +kernel, .object "TakenShade$Rescue", by decide +kernel, fun _ => rfl, fun _ => rfl⟩
theorem ffX10_5 : FF RX10 10 5 := ⟨(RX10, TX10, 11), rfl, by decide +kernel, by decide +kernel, .object "TakenShade$Collectors", by decide +kernel, fun _ => rfl, fun _ => rfl⟩
theorem ffX10_6 : FF RX10 10 6 := ⟨(RX10, TX10, 11), rfl, by decide +kernel, by decide +kernel, .object "TakenShade$Witness", by decide +kernel, fun _ => rfl, fun _ => rfl⟩
theorem ffX10_7 : FF RX10 10 7 := ⟨(RX10, TX10, 11), rfl, by decide +kernel, by decide +kernel, .object "TakenShade$Chance", by decide +kernel, fun _ => rfl, fun _ => rfl⟩
theorem ffX10_8 : FF RX10 10 8 := ⟨(RX10, TX10, 11), rfl, by decide +kernel, by decide +kernel, .array (.object "TakenShade$Sheet"), by decide +kernel, fun _ => rfl, fun _ => rfl⟩
theorem nwX10 : NWd 10 11 [.null, .null, .null, .null, .null, .null, .null, .null, .null, vI 0, vI 0] := ⟨(RX10, TX10, 11), tyX10, rfl, rfl, tyX10_ok, fun j hj => by
  have h9 : j < 11 := hj
  match j, h9 with
  | 0, _ => rfl
  | 1, _ => rfl
  | 2, _ => rfl
  | 3, _ => rfl
  | 4, _ => rfl
  | 5, _ => rfl
  | 6, _ => rfl
  | 7, _ => rfl
  | 8, _ => rfl
  | 9, _ => rfl
  | 10, _ => rfl
  | j + 11, h9 => exact absurd h9 (by omega), gt_in (tin1 (List.mem_of_getElem? (l := tables_1_1) (i := 17) (by decide +kernel))) rfl, gt_in (tin1 (List.mem_of_getElem? (l := tables_1_1) (i := 1) (by decide +kernel))) rfl⟩
theorem oiX11 : Cond.methodLink RX11 1 Lib.objectInit ∈ gt := gt_in (tin4 (List.mem_of_getElem? (l := tables_1_4) (i := 154) (by decide +kernel))) rfl
theorem ffX11_0 : FF RX11 11 0 := ⟨(RX11, TX11, 33), rfl, by decide +kernel, by decide +kernel, .array .int, by decide +kernel, fun _ => rfl, fun _ => rfl⟩
theorem ffX11_1 : FF RX11 11 1 := ⟨(RX11, TX11, 33), rfl, by decide +kernel, by decide +kernel, .array .int, by decide +kernel, fun _ => rfl, fun _ => rfl⟩
theorem ffX11_2 : FF RX11 11 2 := ⟨(RX11, TX11, 33), rfl, by decide +kernel, by decide +kernel, .array .int, by decide +kernel, fun _ => rfl, fun _ => rfl⟩
theorem ffX11_3 : FF RX11 11 3 := ⟨(RX11, TX11, 33), rfl, by decide +kernel, by decide +kernel, .array .int, by decide +kernel, fun _ => rfl, fun _ => rfl⟩
theorem ffX11_5 : FF RX11 11 5 := ⟨(RX11, TX11, 33), rfl, by decide +kernel, by decide +kernel, .array .int, by decide +kernel, fun _ => rfl, fun _ => rfl⟩
theorem ffX11_9 : FF RX11 11 9 := ⟨(RX11, TX11, 33), rfl, by decide +kernel, by decide +kernel, .array .int, by decide +kernel, fun _ => rfl, fun _ => rfl⟩
theorem ffX11_11 : FF RX11 11 11 := ⟨(RX11, TX11, 33), rfl, by decide +kernel, by decide +kernel, .array .int, by decide +kernel, fun _ => rfl, fun _ => rfl⟩
theorem ffX11_13 : FF RX11 11 13 := ⟨(RX11, TX11, 33), rfl, by decide +kernel, by decide +kernel, .array .int, by decide +kernel, fun _ => rfl, fun _ => rfl⟩
theorem ffX11_15 : FF RX11 11 15 := ⟨(RX11, TX11, 33), rfl, by decide +kernel, by decide +kernel, .array .int, by decide +kernel, fun _ => rfl, fun _ => rfl⟩
theorem ffX11_16 : FF RX11 11 16 := ⟨(RX11, TX11, 33), rfl, by decide +kernel, by decide +kernel, .array .int, by decide +kernel, fun _ => rfl, fun _ => rfl⟩
theorem ffX11_17 : FF RX11 11 17 := ⟨(RX11, TX11, 33), rfl, by decide +kernel, by decide +kernel, .array .int, by decide +kernel, fun _ => rfl, fun _ => rfl⟩
theorem ffX11_18 : FF RX11 11 18 := ⟨(RX11, TX11, 33), rfl, by decide +kernel, by decide +kernel, .array .int, by decide +kernel, fun _ => rfl, fun _ => rfl⟩
theorem ffX11_28 : FF RX11 11 28 := ⟨(RX11, TX11, 33), rfl, by decide +kernel, by decide +kernel, .array .int, by decide +kernel, fun _ => rfl, fun _ => rfl⟩
theorem ffX11_32 : FF RX11 11 32 := ⟨(RX11, TX11, 33), rfl, by decide +kernel, by decide +kernel, .array .int, by decide +kernel, fun _ => rfl, fun _ => rfl⟩
theorem nwX11 : NWd 11 33 [.null, .null, .null, .null, vI 0, .null, vI 0, vI 0, vI 0, .null, vI 0, .null, vI 0, .null, vI 0, .null, .null, .null, .null, vI 0, vI 0, vI 0, vI 0, vI 0, vI 0, vI 0, vI 0, vI 0, .null, vI 0, vI 0, vI 0, .null] := ⟨(RX11, TX11, 33), tyX11, rfl, rfl, tyX11_ok, fun j hj => by
  have h9 : j < 33 := hj
  match j, h9 with
  | 0, _ => rfl
  | 1, _ => rfl
  | 2, _ => rfl
  | 3, _ => rfl
  | 4, _ => rfl
  | 5, _ => rfl
  | 6, _ => rfl
  | 7, _ => rfl
  | 8, _ => rfl
  | 9, _ => rfl
  | 10, _ => rfl
  | 11, _ => rfl
  | 12, _ => rfl
  | 13, _ => rfl
  | 14, _ => rfl
  | 15, _ => rfl
  | 16, _ => rfl
  | 17, _ => rfl
  | 18, _ => rfl
  | 19, _ => rfl
  | 20, _ => rfl
  | 21, _ => rfl
  | 22, _ => rfl
  | 23, _ => rfl
  | 24, _ => rfl
  | 25, _ => rfl
  | 26, _ => rfl
  | 27, _ => rfl
  | 28, _ => rfl
  | 29, _ => rfl
  | 30, _ => rfl
  | 31, _ => rfl
  | 32, _ => rfl
  | j + 33, h9 => exact absurd h9 (by omega), gt_in (tin4 (List.mem_of_getElem? (l := tables_1_4) (i := 150) (by decide +kernel))) rfl, gt_in (tin1 (List.mem_of_getElem? (l := tables_1_1) (i := 14) (by decide +kernel))) rfl⟩
theorem clkRL_7 : CLk "TakenShadeLaw" 7 10 := ⟨(RX10, TX10, 11), rfl, gt_in (tin1 (List.mem_of_getElem? (l := tables_1_1) (i := 16) (by decide +kernel))) rfl⟩
theorem clkRX10_7 : CLk RX10 7 4 := ⟨(RX4, TX4, 6), rfl, gt_in (tin1 (List.mem_of_getElem? (l := tables_1_1) (i := 24) (by decide +kernel))) rfl⟩
theorem clkRX10_16 : CLk RX10 16 5 := ⟨(RX5, TX5, 4), rfl, gt_in (tin1 (List.mem_of_getElem? (l := tables_1_1) (i := 50) (by decide +kernel))) rfl⟩
theorem clkRX5_9 : CLk RX5 9 7 := ⟨(RX7, TX7, 3), rfl, gt_in (tin1 (List.mem_of_getElem? (l := tables_1_1) (i := 56) (by decide +kernel))) rfl⟩
theorem clkRX10_23 : CLk RX10 23 0 := ⟨(RX0, TX0, 2), rfl, gt_in (tin1 (List.mem_of_getElem? (l := tables_1_1) (i := 92) (by decide +kernel))) rfl⟩
theorem clkRX0_9 : CLk RX0 9 7 := ⟨(RX7, TX7, 3), rfl, gt_in (tin1 (List.mem_of_getElem? (l := tables_1_1) (i := 98) (by decide +kernel))) rfl⟩
theorem clkRX10_30 : CLk RX10 30 3 := ⟨(RX3, TX3, 12), rfl, gt_in (tin1 (List.mem_of_getElem? (l := tables_1_1) (i := 109) (by decide +kernel))) rfl⟩
theorem clkRX10_39 : CLk RX10 39 6 := ⟨(RX6, TX6, 2), rfl, gt_in (tin1 (List.mem_of_getElem? (l := tables_1_1) (i := 152) (by decide +kernel))) rfl⟩
theorem clkRX10_46 : CLk RX10 46 2 := ⟨(RX2, TX2, 3), rfl, gt_in (tin1 (List.mem_of_getElem? (l := tables_1_1) (i := 165) (by decide +kernel))) rfl⟩
theorem clkRX10_53 : CLk RX10 53 9 := ⟨(RX9, TX9, 3), rfl, gt_in (tin1 (List.mem_of_getElem? (l := tables_1_1) (i := 184) (by decide +kernel))) rfl⟩
theorem clkRX9_9 : CLk RX9 9 7 := ⟨(RX7, TX7, 3), rfl, gt_in (tin1 (List.mem_of_getElem? (l := tables_1_1) (i := 190) (by decide +kernel))) rfl⟩
theorem clkRX10_60 : CLk RX10 60 1 := ⟨(RX1, TX1, 3), rfl, gt_in (tin1 (List.mem_of_getElem? (l := tables_1_1) (i := 202) (by decide +kernel))) rfl⟩
theorem clkRX10_67 : CLk RX10 67 8 := ⟨(RX8, TX8, 3), rfl, gt_in (tin1 (List.mem_of_getElem? (l := tables_1_1) (i := 219) (by decide +kernel))) rfl⟩
theorem cls8 : Cond.classLink RX10 67 RX8 ∈ gt := gt_in (tin1 (List.mem_of_getElem? (l := tables_1_1) (i := 219) (by decide +kernel))) rfl
theorem clkRL_10 : CLk "TakenShadeLaw" 10 11 := ⟨(RX11, TX11, 33), rfl, gt_in (tin4 (List.mem_of_getElem? (l := tables_1_4) (i := 149) (by decide +kernel))) rfl⟩
theorem miX10_init : MI mX10_init 0 := ⟨⟨gt_in (tin1 (List.mem_of_getElem? (l := tables_1_1) (i := 20) (by decide +kernel))) rfl, gt_in (tin1 (List.mem_of_getElem? (l := tables_1_1) (i := 1) (by decide +kernel))) rfl, by decide, by decide +kernel, by decide +kernel, by decide +kernel⟩, gt_in (tin1 (List.mem_of_getElem? (l := tables_1_1) (i := 19) (by decide +kernel))) rfl, rfl, rfl⟩
theorem miX4_init : MI mX4_init 0 := ⟨⟨gt_in (tin1 (List.mem_of_getElem? (l := tables_1_1) (i := 28) (by decide +kernel))) rfl, gt_in (tin1 (List.mem_of_getElem? (l := tables_1_1) (i := 2) (by decide +kernel))) rfl, by decide, by decide +kernel, by decide +kernel, by decide +kernel⟩, gt_in (tin1 (List.mem_of_getElem? (l := tables_1_1) (i := 27) (by decide +kernel))) rfl, rfl, rfl⟩
theorem miX5_init : MI mX5_init 0 := ⟨⟨gt_in (tin1 (List.mem_of_getElem? (l := tables_1_1) (i := 54) (by decide +kernel))) rfl, gt_in (tin1 (List.mem_of_getElem? (l := tables_1_1) (i := 3) (by decide +kernel))) rfl, by decide, by decide +kernel, by decide +kernel, by decide +kernel⟩, gt_in (tin1 (List.mem_of_getElem? (l := tables_1_1) (i := 53) (by decide +kernel))) rfl, rfl, rfl⟩
theorem miX7_init : MI mX7_init 1 := ⟨⟨gt_in (tin1 (List.mem_of_getElem? (l := tables_1_1) (i := 60) (by decide +kernel))) rfl, gt_in (tin1 (List.mem_of_getElem? (l := tables_1_1) (i := 4) (by decide +kernel))) rfl, by decide, by decide +kernel, by decide +kernel, by decide +kernel⟩, gt_in (tin1 (List.mem_of_getElem? (l := tables_1_1) (i := 59) (by decide +kernel))) rfl, rfl, rfl⟩
theorem miX0_init : MI mX0_init 0 := ⟨⟨gt_in (tin1 (List.mem_of_getElem? (l := tables_1_1) (i := 96) (by decide +kernel))) rfl, gt_in (tin1 (List.mem_of_getElem? (l := tables_1_1) (i := 6) (by decide +kernel))) rfl, by decide, by decide +kernel, by decide +kernel, by decide +kernel⟩, gt_in (tin1 (List.mem_of_getElem? (l := tables_1_1) (i := 95) (by decide +kernel))) rfl, rfl, rfl⟩
theorem miX3_init : MI mX3_init 3 := ⟨⟨gt_in (tin1 (List.mem_of_getElem? (l := tables_1_1) (i := 113) (by decide +kernel))) rfl, gt_in (tin1 (List.mem_of_getElem? (l := tables_1_1) (i := 7) (by decide +kernel))) rfl, by decide, by decide +kernel, by decide +kernel, by decide +kernel⟩, gt_in (tin1 (List.mem_of_getElem? (l := tables_1_1) (i := 112) (by decide +kernel))) rfl, rfl, rfl⟩
theorem miX6_init : MI mX6_init 0 := ⟨⟨gt_in (tin1 (List.mem_of_getElem? (l := tables_1_1) (i := 156) (by decide +kernel))) rfl, gt_in (tin1 (List.mem_of_getElem? (l := tables_1_1) (i := 8) (by decide +kernel))) rfl, by decide, by decide +kernel, by decide +kernel, by decide +kernel⟩, gt_in (tin1 (List.mem_of_getElem? (l := tables_1_1) (i := 155) (by decide +kernel))) rfl, rfl, rfl⟩
theorem miX2_init : MI mX2_init 0 := ⟨⟨gt_in (tin1 (List.mem_of_getElem? (l := tables_1_1) (i := 169) (by decide +kernel))) rfl, gt_in (tin1 (List.mem_of_getElem? (l := tables_1_1) (i := 9) (by decide +kernel))) rfl, by decide, by decide +kernel, by decide +kernel, by decide +kernel⟩, gt_in (tin1 (List.mem_of_getElem? (l := tables_1_1) (i := 168) (by decide +kernel))) rfl, rfl, rfl⟩
theorem miX9_init : MI mX9_init 0 := ⟨⟨gt_in (tin1 (List.mem_of_getElem? (l := tables_1_1) (i := 188) (by decide +kernel))) rfl, gt_in (tin1 (List.mem_of_getElem? (l := tables_1_1) (i := 11) (by decide +kernel))) rfl, by decide, by decide +kernel, by decide +kernel, by decide +kernel⟩, gt_in (tin1 (List.mem_of_getElem? (l := tables_1_1) (i := 187) (by decide +kernel))) rfl, rfl, rfl⟩
theorem miX1_init : MI mX1_init 0 := ⟨⟨gt_in (tin1 (List.mem_of_getElem? (l := tables_1_1) (i := 206) (by decide +kernel))) rfl, gt_in (tin1 (List.mem_of_getElem? (l := tables_1_1) (i := 12) (by decide +kernel))) rfl, by decide, by decide +kernel, by decide +kernel, by decide +kernel⟩, gt_in (tin1 (List.mem_of_getElem? (l := tables_1_1) (i := 205) (by decide +kernel))) rfl, rfl, rfl⟩
theorem miX8_init : MI mX8_init 0 := ⟨⟨gt_in (tin1 (List.mem_of_getElem? (l := tables_1_1) (i := 224) (by decide +kernel))) rfl, gt_in (tin1 (List.mem_of_getElem? (l := tables_1_1) (i := 13) (by decide +kernel))) rfl, by decide, by decide +kernel, by decide +kernel, by decide +kernel⟩, gt_in (tin1 (List.mem_of_getElem? (l := tables_1_1) (i := 223) (by decide +kernel))) rfl, rfl, rfl⟩
theorem miX11_init : MI mX11_init 0 := ⟨⟨gt_in (tin4 (List.mem_of_getElem? (l := tables_1_4) (i := 153) (by decide +kernel))) rfl, gt_in (tin1 (List.mem_of_getElem? (l := tables_1_1) (i := 14) (by decide +kernel))) rfl, by decide, by decide +kernel, by decide +kernel, by decide +kernel⟩, gt_in (tin4 (List.mem_of_getElem? (l := tables_1_4) (i := 152) (by decide +kernel))) rfl, rfl, rfl⟩
theorem mx_co : Cond.code Lib.Math.max.name Lib.Math.max.code 2 (some .int) ∈ gt := gt_in (tin1 (List.mem_of_getElem? (l := tables_1_1) (i := 64) (by decide +kernel))) rfl
theorem mx_st : Cond.static Lib.Math.max.name ∈ gt := gt_in (tin1 (List.mem_of_getElem? (l := tables_1_1) (i := 63) (by decide +kernel))) rfl
theorem mx_in : Cond.initialized "java/lang/Math" ∈ gt := gt_in (tin1 (List.mem_of_getElem? (l := tables_1_1) (i := 5) (by decide +kernel))) rfl
theorem mx_lk : Cond.methodLink RX7 9 Lib.Math.max.name ∈ gt := gt_in (tin1 (List.mem_of_getElem? (l := tables_1_1) (i := 62) (by decide +kernel))) rfl
theorem G_maxw {κ : Kx} {Γ : Ev} {own : String} {cc : ByteArray} {nL d pc : Nat} {L : List (Option Value)} {st : List Value} {ws : va_W} (hk : Ok κ Γ own cc nL (d + 1)) {idx : Nat} {x y : Int} (hd : decode cc pc = .ok (.invokestatic idx, 3)) (hl0 : Cond.methodLink own idx Lib.Math.max.name ∈ gt) (hx : R32 x) (hy : R32 y) (h8 : (st.map fun v => v.category).sum ≤ 8) (k : GW κ Γ (pc + 3) L (vI (if x < y then y else x) :: st) ws) : GW κ Γ pc L (vI y :: vI x :: st) ws := by
  obtain ⟨p, l, e, R, s, m, args, below, meth, c, Q, H0, A, n0, c1, c2⟩ := κ
  obtain ⟨k1, k2, k3, k4, k5, k6, k7, k8, k9, k10, k11, k12, k13⟩ := hk
  subst k13
  intro H locs ls hP hD hS hl
  refine va_mmax k1 k2 (by rw [k3, hl.1]) k4 (k5 _ hl0) (k5 _ mx_st) (k5 _ mx_in) (k5 _ mx_co) (by omega) (by omega) k11 k12 hd ?_
  have h9 := k H locs ls hP hD hS hl
  have e9 : (if Int32.ofInt x < Int32.ofInt y then Int32.ofInt y else Int32.ofInt x) = Int32.ofInt (if x < y then y else x) := by
    by_cases q : x < y
    · rw [if_pos q, if_pos ((i32_lt hx hy).mpr q)]
    · rw [if_neg q, if_neg (fun h => q ((i32_lt hx hy).mp h))]
  rw [e9]
  exact h9

/-- the words of nest mates, which are not among those that stay by themselves -/
def nst : List Cond := [.methodLinkNest RX10 9 yX4_init "TakenShade", .methodLinkNest RX10 18 yX5_init "TakenShade", .methodLinkNest RX10 25 yX0_init "TakenShade", .methodLinkNest RX10 41 yX6_init "TakenShade", .methodLinkNest RX10 55 yX9_init "TakenShade", .methodLinkNest RX10 62 yX1_init "TakenShade", .methodLinkNest RX10 80 yX8_init "TakenShade"]
def EN (U : State) : Prop := (∀ w ∈ nst, va_Nw w U) ∧ va_AO RX8 U
theorem c_fillW (l : Launch) (Γ : Ev) (d q n : Nat) (hn : n < 1000) (f : Nat → Int) (v : Int) : Cst l Γ d 0 0 mJ7_fill_53178 [.ref q, vI v] (fun _ => True) [(q, aI Γ n f)] (fun w => w = [(q, aI Γ n (fun j => if j < n then v else f j))]) := by
  refine Cst.ofF (by decide +kernel) rfl rfl (Nat.le_of_ble_eq_true rfl) ?_
  intro κ hl hk hr hR
  subst hl
  refine G_iconst hk dJ7_fill_53178_0 ?_
  refine G_istore_n hk dJ7_fill_53178_1 (by decide) rfl ?_
  refine G_qload_n hk dJ7_fill_53178_2 rfl ?_
  refine G_alenw hk (q0 := 0) dJ7_fill_53178_3 rfl ?_
  refine G_istore_n hk dJ7_fill_53178_4 (by decide) rfl ?_
  have lp := loop_up (P := fun k => GW (kb κ 0 0) Γ 5 [some (.ref q), some (vI v), some (vI (k : Int)), some (vI (n : Int))] [] [(q, aI Γ n (fun j => if j < k then v else f j))]) n ?_ ?_ 0 (Nat.zero_le _)
  · have e0 : (fun j => if j < 0 then v else f j) = f := by funext j; rw [if_neg (by omega)]
    rw [e0] at lp
    exact lp
  · refine G_iload_n hk dJ7_fill_53178_5 rfl ?_
    refine G_iload_n hk dJ7_fill_53178_6 rfl ?_
    refine G_icmp_ge (tgt := 20) hk dJ7_fill_53178_7 (by decide) ⟨by omega, by omega⟩ ⟨by omega, by omega⟩ (fun h_7 => ?_) (fun h_7 => ?_)
    · exact G_vretW hk hr dJ7_fill_53178_20 (Nat.le_refl _) (Nat.le_refl _) rfl
    · exact absurd h_7 (by omega)
  · intro k hk9 ih
    refine G_iload_n hk dJ7_fill_53178_5 rfl ?_
    refine G_iload_n hk dJ7_fill_53178_6 rfl ?_
    refine G_icmp_ge (tgt := 20) hk dJ7_fill_53178_7 (by decide) ⟨by omega, by omega⟩ ⟨by omega, by omega⟩ (fun h_7 => ?_) (fun h_7 => ?_)
    · exact absurd h_7 (by omega)
    · refine G_qload_n hk dJ7_fill_53178_10 rfl ?_
      refine G_iload_n hk dJ7_fill_53178_11 rfl ?_
      refine G_iload_n hk dJ7_fill_53178_12 rfl ?_
      refine G_iastw hk (q0 := 0) (k := k) (f := fun j => if j < k then v else f j) dJ7_fill_53178_13 rfl hn hk9 ?_
      refine G_iinc hk dJ7_fill_53178_14 rfl (by decide) rfl ?_
      refine G_goto (tgt := 5) hk dJ7_fill_53178_17 (by decide) ?_
      have e1 : upf (fun j => if j < k then v else f j) k v = fun j => if j < k + 1 then v else f j := by
        funext j
        unfold upf
        by_cases h1 : j = k
        · rw [if_pos h1, if_pos (by omega)]
        · rw [if_neg h1]
          show (if j < k then v else f j) = _
          by_cases h2 : j < k
          · rw [if_pos h2, if_pos (by omega)]
          · rw [if_neg h2, if_neg (by omega)]
      rw [e1]
      exact ih
def wPe (Γ : Ev) (q : Nat) (w : va_W) : Prop := ∃ a1 a2 a3 : Nat, w = [(q, .inr (4, [.ref a1, .ref a2, .ref a3, vI 0, vI (-1), vI 0])), (a1, zI Γ 31), (a2, zI Γ 8), (a3, zI Γ 8)]
set_option maxRecDepth 20000 in
theorem c_PeI (l : Launch) (Γ : Ev) (d q : Nat) : Cst l Γ (d + 1) 3 47 mX4_init [.ref q] (fun _ => True) [(q, .inr (4, [.null, .null, .null, vI 0, vI 0, vI 0]))] (wPe Γ q) := by
  refine Cst.of (by decide) rfl rfl (Nat.le_of_ble_eq_true rfl) rfl ?_
  intro κ hl hk hr hR hin hE
  subst hl
  refine G_qload_n hk dX4_init_0 rfl ?_
  refine G_obj (oi := mw mX4_init) hk dX4_init_1 oiX4 oi_in oi_co (Nat.le_of_ble_eq_true rfl) ?_
  refine G_qload_n hk dX4_init_4 rfl ?_
  refine G_bipush hk dX4_init_5 (by decide) ?_
  refine G_newI hk hR 31 dX4_init_7 ar_I (by decide) (Nat.le_of_ble_eq_true rfl) (Nat.le_of_ble_eq_true rfl) (fun a1 => ?_)
  have hk := Ok_kb (a2 := 1) (b2 := 31) hk hR (Nat.le_of_ble_eq_true rfl) (Nat.le_of_ble_eq_true rfl)
  show GW (kb κ 1 31) Γ 9 [some (.ref q)] [.ref a1, .ref q] [(q, .inr (4, [.null, .null, .null, vI 0, vI 0, vI 0])), (a1, zI Γ 31)]
  refine G_putFr hk hin (q0 := 0) dX4_init_9 flX4_9 ffX4_0 rfl (Nat.le_of_ble_eq_true rfl) ?_
  show GW (kb κ 1 31) Γ 12 [some (.ref q)] [] [(q, .inr (4, [.ref a1, .null, .null, vI 0, vI 0, vI 0])), (a1, zI Γ 31)]
  refine G_qload_n hk dX4_init_12 rfl ?_
  refine G_bipush hk dX4_init_13 (by decide) ?_
  refine G_newI hk hR 8 dX4_init_15 ar_I (by decide) (Nat.le_of_ble_eq_true rfl) (Nat.le_of_ble_eq_true rfl) (fun a2 => ?_)
  have hk := Ok_kb (a2 := 2) (b2 := 39) hk hR (Nat.le_of_ble_eq_true rfl) (Nat.le_of_ble_eq_true rfl)
  show GW (kb κ 2 39) Γ 17 [some (.ref q)] [.ref a2, .ref q] [(q, .inr (4, [.ref a1, .null, .null, vI 0, vI 0, vI 0])), (a1, zI Γ 31), (a2, zI Γ 8)]
  refine G_putFr hk hin (q0 := 0) dX4_init_17 flX4_15 ffX4_1 rfl (Nat.le_of_ble_eq_true rfl) ?_
  show GW (kb κ 2 39) Γ 20 [some (.ref q)] [] [(q, .inr (4, [.ref a1, .ref a2, .null, vI 0, vI 0, vI 0])), (a1, zI Γ 31), (a2, zI Γ 8)]
  refine G_qload_n hk dX4_init_20 rfl ?_
  refine G_bipush hk dX4_init_21 (by decide) ?_
  refine G_newI hk hR 8 dX4_init_23 ar_I (by decide) (Nat.le_of_ble_eq_true rfl) (Nat.le_of_ble_eq_true rfl) (fun a3 => ?_)
  have hk := Ok_kb (a2 := 3) (b2 := 47) hk hR (Nat.le_of_ble_eq_true rfl) (Nat.le_of_ble_eq_true rfl)
  show GW (kb κ 3 47) Γ 25 [some (.ref q)] [.ref a3, .ref q] [(q, .inr (4, [.ref a1, .ref a2, .null, vI 0, vI 0, vI 0])), (a1, zI Γ 31), (a2, zI Γ 8), (a3, zI Γ 8)]
  refine G_putFr hk hin (q0 := 0) dX4_init_25 flX4_18 ffX4_2 rfl (Nat.le_of_ble_eq_true rfl) ?_
  show GW (kb κ 3 47) Γ 28 [some (.ref q)] [] [(q, .inr (4, [.ref a1, .ref a2, .ref a3, vI 0, vI 0, vI 0])), (a1, zI Γ 31), (a2, zI Γ 8), (a3, zI Γ 8)]
  refine G_qload_n hk dX4_init_28 rfl ?_
  refine G_iconst hk dX4_init_29 ?_
  refine G_putIw hk (q0 := 0) dX4_init_30 flX4_21 fpX4_4 rfl (Nat.le_of_ble_eq_true rfl) ?_
  show GW (kb κ 3 47) Γ 33 [some (.ref q)] [] [(q, .inr (4, [.ref a1, .ref a2, .ref a3, vI 0, vI (-1), vI 0])), (a1, zI Γ 31), (a2, zI Γ 8), (a3, zI Γ 8)]
  exact G_vretW hk hr dX4_init_33 (Nat.le_of_ble_eq_true rfl) (Nat.le_of_ble_eq_true rfl) ⟨a1, a2, a3, rfl⟩
def wRo12 (Γ : Ev) (q : Nat) (w : va_W) : Prop := ∃ a1 a2 : Nat, w = [(q, .inr (7, [.ref a1, .ref a2, vI 0])), (a1, zI Γ 12), (a2, zI Γ 12)]
set_option maxRecDepth 20000 in
theorem c_RoI12 (l : Launch) (Γ : Ev) (d q : Nat) : Cst l Γ (d + 1) 2 24 mX7_init [.ref q, vI 12] (fun _ => True) [(q, .inr (7, [.null, .null, vI 0]))] (wRo12 Γ q) := by
  refine Cst.of (by decide) rfl rfl (Nat.le_of_ble_eq_true rfl) rfl ?_
  intro κ hl hk hr hR hin hE
  subst hl
  refine G_qload_n hk dX7_init_0 rfl ?_
  refine G_obj (oi := mw mX4_init) hk dX7_init_1 oiX7 oi_in oi_co (Nat.le_of_ble_eq_true rfl) ?_
  refine G_iload_n hk dX7_init_4 rfl ?_
  refine G_iconst hk dX7_init_5 ?_
  refine G_maxw hk dX7_init_6 mx_lk (by decide) (by decide) (Nat.le_of_ble_eq_true rfl) ?_
  show GW (kb κ 0 0) Γ 9 [some (.ref q), some (vI 12)] [vI 12] [(q, .inr (7, [.null, .null, vI 0]))]
  refine G_istore_n hk dX7_init_9 (by decide) rfl ?_
  show GW (kb κ 0 0) Γ 10 [some (.ref q), some (vI 12), some (vI 12)] [] [(q, .inr (7, [.null, .null, vI 0]))]
  refine G_qload_n hk dX7_init_10 rfl ?_
  refine G_iload_n hk dX7_init_11 rfl ?_
  refine G_newI hk hR 12 dX7_init_12 ar_I (by decide) (Nat.le_of_ble_eq_true rfl) (Nat.le_of_ble_eq_true rfl) (fun a1 => ?_)
  have hk := Ok_kb (a2 := 1) (b2 := 12) hk hR (Nat.le_of_ble_eq_true rfl) (Nat.le_of_ble_eq_true rfl)
  show GW (kb κ 1 12) Γ 14 [some (.ref q), some (vI 12), some (vI 12)] [.ref a1, .ref q] [(q, .inr (7, [.null, .null, vI 0])), (a1, zI Γ 12)]
  refine G_putFr hk hin (q0 := 0) dX7_init_14 flX7_15 ffX7_0 rfl (Nat.le_of_ble_eq_true rfl) ?_
  show GW (kb κ 1 12) Γ 17 [some (.ref q), some (vI 12), some (vI 12)] [] [(q, .inr (7, [.ref a1, .null, vI 0])), (a1, zI Γ 12)]
  refine G_qload_n hk dX7_init_17 rfl ?_
  refine G_iload_n hk dX7_init_18 rfl ?_
  refine G_newI hk hR 12 dX7_init_19 ar_I (by decide) (Nat.le_of_ble_eq_true rfl) (Nat.le_of_ble_eq_true rfl) (fun a2 => ?_)
  have hk := Ok_kb (a2 := 2) (b2 := 24) hk hR (Nat.le_of_ble_eq_true rfl) (Nat.le_of_ble_eq_true rfl)
  show GW (kb κ 2 24) Γ 21 [some (.ref q), some (vI 12), some (vI 12)] [.ref a2, .ref q] [(q, .inr (7, [.ref a1, .null, vI 0])), (a1, zI Γ 12), (a2, zI Γ 12)]
  refine G_putFr hk hin (q0 := 0) dX7_init_21 flX7_21 ffX7_1 rfl (Nat.le_of_ble_eq_true rfl) ?_
  show GW (kb κ 2 24) Γ 24 [some (.ref q), some (vI 12), some (vI 12)] [] [(q, .inr (7, [.ref a1, .ref a2, vI 0])), (a1, zI Γ 12), (a2, zI Γ 12)]
  exact G_vretW hk hr dX7_init_24 (Nat.le_of_ble_eq_true rfl) (Nat.le_of_ble_eq_true rfl) ⟨a1, a2, rfl⟩
def wRo8 (Γ : Ev) (q : Nat) (w : va_W) : Prop := ∃ a1 a2 : Nat, w = [(q, .inr (7, [.ref a1, .ref a2, vI 0])), (a1, zI Γ 8), (a2, zI Γ 8)]
set_option maxRecDepth 20000 in
theorem c_RoI8 (l : Launch) (Γ : Ev) (d q : Nat) : Cst l Γ (d + 1) 2 16 mX7_init [.ref q, vI 8] (fun _ => True) [(q, .inr (7, [.null, .null, vI 0]))] (wRo8 Γ q) := by
  refine Cst.of (by decide) rfl rfl (Nat.le_of_ble_eq_true rfl) rfl ?_
  intro κ hl hk hr hR hin hE
  subst hl
  refine G_qload_n hk dX7_init_0 rfl ?_
  refine G_obj (oi := mw mX4_init) hk dX7_init_1 oiX7 oi_in oi_co (Nat.le_of_ble_eq_true rfl) ?_
  refine G_iload_n hk dX7_init_4 rfl ?_
  refine G_iconst hk dX7_init_5 ?_
  refine G_maxw hk dX7_init_6 mx_lk (by decide) (by decide) (Nat.le_of_ble_eq_true rfl) ?_
  show GW (kb κ 0 0) Γ 9 [some (.ref q), some (vI 8)] [vI 8] [(q, .inr (7, [.null, .null, vI 0]))]
  refine G_istore_n hk dX7_init_9 (by decide) rfl ?_
  show GW (kb κ 0 0) Γ 10 [some (.ref q), some (vI 8), some (vI 8)] [] [(q, .inr (7, [.null, .null, vI 0]))]
  refine G_qload_n hk dX7_init_10 rfl ?_
  refine G_iload_n hk dX7_init_11 rfl ?_
  refine G_newI hk hR 8 dX7_init_12 ar_I (by decide) (Nat.le_of_ble_eq_true rfl) (Nat.le_of_ble_eq_true rfl) (fun a1 => ?_)
  have hk := Ok_kb (a2 := 1) (b2 := 8) hk hR (Nat.le_of_ble_eq_true rfl) (Nat.le_of_ble_eq_true rfl)
  show GW (kb κ 1 8) Γ 14 [some (.ref q), some (vI 8), some (vI 8)] [.ref a1, .ref q] [(q, .inr (7, [.null, .null, vI 0])), (a1, zI Γ 8)]
  refine G_putFr hk hin (q0 := 0) dX7_init_14 flX7_15 ffX7_0 rfl (Nat.le_of_ble_eq_true rfl) ?_
  show GW (kb κ 1 8) Γ 17 [some (.ref q), some (vI 8), some (vI 8)] [] [(q, .inr (7, [.ref a1, .null, vI 0])), (a1, zI Γ 8)]
  refine G_qload_n hk dX7_init_17 rfl ?_
  refine G_iload_n hk dX7_init_18 rfl ?_
  refine G_newI hk hR 8 dX7_init_19 ar_I (by decide) (Nat.le_of_ble_eq_true rfl) (Nat.le_of_ble_eq_true rfl) (fun a2 => ?_)
  have hk := Ok_kb (a2 := 2) (b2 := 16) hk hR (Nat.le_of_ble_eq_true rfl) (Nat.le_of_ble_eq_true rfl)
  show GW (kb κ 2 16) Γ 21 [some (.ref q), some (vI 8), some (vI 8)] [.ref a2, .ref q] [(q, .inr (7, [.ref a1, .null, vI 0])), (a1, zI Γ 8), (a2, zI Γ 8)]
  refine G_putFr hk hin (q0 := 0) dX7_init_21 flX7_21 ffX7_1 rfl (Nat.le_of_ble_eq_true rfl) ?_
  show GW (kb κ 2 16) Γ 24 [some (.ref q), some (vI 8), some (vI 8)] [] [(q, .inr (7, [.ref a1, .ref a2, vI 0])), (a1, zI Γ 8), (a2, zI Γ 8)]
  exact G_vretW hk hr dX7_init_24 (Nat.le_of_ble_eq_true rfl) (Nat.le_of_ble_eq_true rfl) ⟨a1, a2, rfl⟩
def wPi (Γ : Ev) (q : Nat) (w : va_W) : Prop := ∃ a1 a2 a3 a4 a5 a6 : Nat, w = [(q, .inr (5, [.ref a1, .ref a4, .ref a5, .ref a6])), (a1, .inr (7, [.ref a2, .ref a3, vI 0])), (a2, zI Γ 12), (a3, zI Γ 12), (a4, zI Γ 12), (a5, zI Γ 12), (a6, zI Γ 12)]
set_option maxRecDepth 20000 in
theorem c_PiI (l : Launch) (Γ : Ev) (d q : Nat) : Cst l Γ (d + 2) 6 63 mX5_init [.ref q] (fun _ => True) [(q, .inr (5, [.null, .null, .null, .null]))] (wPi Γ q) := by
  refine Cst.of (by decide) rfl rfl (Nat.le_of_ble_eq_true rfl) rfl ?_
  intro κ hl hk hr hR hin hE
  subst hl
  refine G_qload_n hk dX5_init_0 rfl ?_
  refine G_obj (oi := mw mX4_init) hk dX5_init_1 oiX5 oi_in oi_co (Nat.le_of_ble_eq_true rfl) ?_
  refine G_qload_n hk dX5_init_4 rfl ?_
  refine G_newO hk hR dX5_init_5 clkRX5_9 nwX7 (Nat.le_of_ble_eq_true rfl) (Nat.le_of_ble_eq_true rfl) (fun a1 => ?_)
  have hk := Ok_kb (a2 := 1) (b2 := 3) hk hR (Nat.le_of_ble_eq_true rfl) (Nat.le_of_ble_eq_true rfl)
  show GW (kb κ 1 3) Γ 8 [some (.ref q)] [.ref a1, .ref q] [(q, .inr (5, [.null, .null, .null, .null])), (a1, .inr (7, [.null, .null, vI 0]))]
  refine G_dup hk dX5_init_8 rfl ?_
  refine G_bipush hk dX5_init_9 (by decide) ?_
  refine G_callC (ws := [(q, .inr (5, [.null, .null, .null, .null]))]) (q := a1) (e0 := .inr (7, [.null, .null, vI 0])) (As := [vI 12]) (rest := [.ref a1, .ref q]) (E := fun _ => True) hk hR dX5_init_11 miX7_init (gt_in (tin1 (List.mem_of_getElem? (l := tables_1_1) (i := 58) (by decide +kernel))) rfl) rfl rfl (Nat.le_of_ble_eq_true rfl) (c_RoI12 _ Γ _ a1) (fun _ _ _ h => h) (fun _ _ => trivial) (Nat.le_of_ble_eq_true rfl) (Nat.le_of_ble_eq_true rfl) (fun w1 hw => ?_)
  obtain ⟨a2, a3, rfl⟩ := hw
  have hk := Ok_kb (a2 := 3) (b2 := 27) hk hR (Nat.le_of_ble_eq_true rfl) (Nat.le_of_ble_eq_true rfl)
  show GW (kb κ 3 27) Γ 14 [some (.ref q)] [.ref a1, .ref q] [(q, .inr (5, [.null, .null, .null, .null])), (a1, .inr (7, [.ref a2, .ref a3, vI 0])), (a2, zI Γ 12), (a3, zI Γ 12)]
  refine G_putFr hk hin (q0 := 0) dX5_init_14 flX5_14 ffX5_0 rfl (Nat.le_of_ble_eq_true rfl) ?_
  show GW (kb κ 3 27) Γ 17 [some (.ref q)] [] [(q, .inr (5, [.ref a1, .null, .null, .null])), (a1, .inr (7, [.ref a2, .ref a3, vI 0])), (a2, zI Γ 12), (a3, zI Γ 12)]
  refine G_qload_n hk dX5_init_17 rfl ?_
  refine G_bipush hk dX5_init_18 (by decide) ?_
  refine G_newI hk hR 12 dX5_init_20 ar_I (by decide) (Nat.le_of_ble_eq_true rfl) (Nat.le_of_ble_eq_true rfl) (fun a4 => ?_)
  have hk := Ok_kb (a2 := 4) (b2 := 39) hk hR (Nat.le_of_ble_eq_true rfl) (Nat.le_of_ble_eq_true rfl)
  show GW (kb κ 4 39) Γ 22 [some (.ref q)] [.ref a4, .ref q] [(q, .inr (5, [.ref a1, .null, .null, .null])), (a1, .inr (7, [.ref a2, .ref a3, vI 0])), (a2, zI Γ 12), (a3, zI Γ 12), (a4, zI Γ 12)]
  refine G_putFr hk hin (q0 := 0) dX5_init_22 flX5_20 ffX5_1 rfl (Nat.le_of_ble_eq_true rfl) ?_
  show GW (kb κ 4 39) Γ 25 [some (.ref q)] [] [(q, .inr (5, [.ref a1, .ref a4, .null, .null])), (a1, .inr (7, [.ref a2, .ref a3, vI 0])), (a2, zI Γ 12), (a3, zI Γ 12), (a4, zI Γ 12)]
  refine G_qload_n hk dX5_init_25 rfl ?_
  refine G_bipush hk dX5_init_26 (by decide) ?_
  refine G_newI hk hR 12 dX5_init_28 ar_I (by decide) (Nat.le_of_ble_eq_true rfl) (Nat.le_of_ble_eq_true rfl) (fun a5 => ?_)
  have hk := Ok_kb (a2 := 5) (b2 := 51) hk hR (Nat.le_of_ble_eq_true rfl) (Nat.le_of_ble_eq_true rfl)
  show GW (kb κ 5 51) Γ 30 [some (.ref q)] [.ref a5, .ref q] [(q, .inr (5, [.ref a1, .ref a4, .null, .null])), (a1, .inr (7, [.ref a2, .ref a3, vI 0])), (a2, zI Γ 12), (a3, zI Γ 12), (a4, zI Γ 12), (a5, zI Γ 12)]
  refine G_putFr hk hin (q0 := 0) dX5_init_30 flX5_24 ffX5_2 rfl (Nat.le_of_ble_eq_true rfl) ?_
  show GW (kb κ 5 51) Γ 33 [some (.ref q)] [] [(q, .inr (5, [.ref a1, .ref a4, .ref a5, .null])), (a1, .inr (7, [.ref a2, .ref a3, vI 0])), (a2, zI Γ 12), (a3, zI Γ 12), (a4, zI Γ 12), (a5, zI Γ 12)]
  refine G_qload_n hk dX5_init_33 rfl ?_
  refine G_bipush hk dX5_init_34 (by decide) ?_
  refine G_newI hk hR 12 dX5_init_36 ar_I (by decide) (Nat.le_of_ble_eq_true rfl) (Nat.le_of_ble_eq_true rfl) (fun a6 => ?_)
  have hk := Ok_kb (a2 := 6) (b2 := 63) hk hR (Nat.le_of_ble_eq_true rfl) (Nat.le_of_ble_eq_true rfl)
  show GW (kb κ 6 63) Γ 38 [some (.ref q)] [.ref a6, .ref q] [(q, .inr (5, [.ref a1, .ref a4, .ref a5, .null])), (a1, .inr (7, [.ref a2, .ref a3, vI 0])), (a2, zI Γ 12), (a3, zI Γ 12), (a4, zI Γ 12), (a5, zI Γ 12), (a6, zI Γ 12)]
  refine G_putFr hk hin (q0 := 0) dX5_init_38 flX5_27 ffX5_3 rfl (Nat.le_of_ble_eq_true rfl) ?_
  show GW (kb κ 6 63) Γ 41 [some (.ref q)] [] [(q, .inr (5, [.ref a1, .ref a4, .ref a5, .ref a6])), (a1, .inr (7, [.ref a2, .ref a3, vI 0])), (a2, zI Γ 12), (a3, zI Γ 12), (a4, zI Γ 12), (a5, zI Γ 12), (a6, zI Γ 12)]
  exact G_vretW hk hr dX5_init_41 (Nat.le_of_ble_eq_true rfl) (Nat.le_of_ble_eq_true rfl) ⟨a1, a2, a3, a4, a5, a6, rfl⟩
def wBu (Γ : Ev) (q : Nat) (w : va_W) : Prop := ∃ a1 a2 a3 a4 : Nat, w = [(q, .inr (0, [.ref a1, .ref a4])), (a1, .inr (7, [.ref a2, .ref a3, vI 0])), (a2, zI Γ 12), (a3, zI Γ 12), (a4, zI Γ 12)]
set_option maxRecDepth 20000 in
theorem c_BuI (l : Launch) (Γ : Ev) (d q : Nat) : Cst l Γ (d + 2) 4 39 mX0_init [.ref q] (fun _ => True) [(q, .inr (0, [.null, .null]))] (wBu Γ q) := by
  refine Cst.of (by decide) rfl rfl (Nat.le_of_ble_eq_true rfl) rfl ?_
  intro κ hl hk hr hR hin hE
  subst hl
  refine G_qload_n hk dX0_init_0 rfl ?_
  refine G_obj (oi := mw mX4_init) hk dX0_init_1 oiX0 oi_in oi_co (Nat.le_of_ble_eq_true rfl) ?_
  refine G_qload_n hk dX0_init_4 rfl ?_
  refine G_newO hk hR dX0_init_5 clkRX0_9 nwX7 (Nat.le_of_ble_eq_true rfl) (Nat.le_of_ble_eq_true rfl) (fun a1 => ?_)
  have hk := Ok_kb (a2 := 1) (b2 := 3) hk hR (Nat.le_of_ble_eq_true rfl) (Nat.le_of_ble_eq_true rfl)
  show GW (kb κ 1 3) Γ 8 [some (.ref q)] [.ref a1, .ref q] [(q, .inr (0, [.null, .null])), (a1, .inr (7, [.null, .null, vI 0]))]
  refine G_dup hk dX0_init_8 rfl ?_
  refine G_bipush hk dX0_init_9 (by decide) ?_
  refine G_callC (ws := [(q, .inr (0, [.null, .null]))]) (q := a1) (e0 := .inr (7, [.null, .null, vI 0])) (As := [vI 12]) (rest := [.ref a1, .ref q]) (E := fun _ => True) hk hR dX0_init_11 miX7_init (gt_in (tin1 (List.mem_of_getElem? (l := tables_1_1) (i := 99) (by decide +kernel))) rfl) rfl rfl (Nat.le_of_ble_eq_true rfl) (c_RoI12 _ Γ _ a1) (fun _ _ _ h => h) (fun _ _ => trivial) (Nat.le_of_ble_eq_true rfl) (Nat.le_of_ble_eq_true rfl) (fun w1 hw => ?_)
  obtain ⟨a2, a3, rfl⟩ := hw
  have hk := Ok_kb (a2 := 3) (b2 := 27) hk hR (Nat.le_of_ble_eq_true rfl) (Nat.le_of_ble_eq_true rfl)
  show GW (kb κ 3 27) Γ 14 [some (.ref q)] [.ref a1, .ref q] [(q, .inr (0, [.null, .null])), (a1, .inr (7, [.ref a2, .ref a3, vI 0])), (a2, zI Γ 12), (a3, zI Γ 12)]
  refine G_putFr hk hin (q0 := 0) dX0_init_14 flX0_14 ffX0_0 rfl (Nat.le_of_ble_eq_true rfl) ?_
  show GW (kb κ 3 27) Γ 17 [some (.ref q)] [] [(q, .inr (0, [.ref a1, .null])), (a1, .inr (7, [.ref a2, .ref a3, vI 0])), (a2, zI Γ 12), (a3, zI Γ 12)]
  refine G_qload_n hk dX0_init_17 rfl ?_
  refine G_bipush hk dX0_init_18 (by decide) ?_
  refine G_newI hk hR 12 dX0_init_20 ar_I (by decide) (Nat.le_of_ble_eq_true rfl) (Nat.le_of_ble_eq_true rfl) (fun a4 => ?_)
  have hk := Ok_kb (a2 := 4) (b2 := 39) hk hR (Nat.le_of_ble_eq_true rfl) (Nat.le_of_ble_eq_true rfl)
  show GW (kb κ 4 39) Γ 22 [some (.ref q)] [.ref a4, .ref q] [(q, .inr (0, [.ref a1, .null])), (a1, .inr (7, [.ref a2, .ref a3, vI 0])), (a2, zI Γ 12), (a3, zI Γ 12), (a4, zI Γ 12)]
  refine G_putFr hk hin (q0 := 0) dX0_init_22 flX0_20 ffX0_1 rfl (Nat.le_of_ble_eq_true rfl) ?_
  show GW (kb κ 4 39) Γ 25 [some (.ref q)] [] [(q, .inr (0, [.ref a1, .ref a4])), (a1, .inr (7, [.ref a2, .ref a3, vI 0])), (a2, zI Γ 12), (a3, zI Γ 12), (a4, zI Γ 12)]
  exact G_vretW hk hr dX0_init_25 (Nat.le_of_ble_eq_true rfl) (Nat.le_of_ble_eq_true rfl) ⟨a1, a2, a3, a4, rfl⟩
def wCo (Γ : Ev) (q : Nat) (p1 p2 p3 : Nat) (w : va_W) : Prop := ∃ a1 a2 a3 : Nat, w = [(q, .inr (3, [.ref p1, .ref p2, .ref p3, .ref a1, .ref a2, .ref a3, vI 0, vI 0, vI 0, vI 0, vI (-1), vI 0])), (a1, zI Γ 8), (a2, zI Γ 12), (a3, zI Γ 12)]
set_option maxRecDepth 20000 in
theorem c_CoI (l : Launch) (Γ : Ev) (d q : Nat) (p1 p2 p3 : Nat) : Cst l Γ (d + 1) 3 32 mX3_init [.ref q, .ref p1, .ref p2, .ref p3] (fun _ => True) [(q, .inr (3, [.null, .null, .null, .null, .null, .null, vI 0, vI 0, vI 0, vI 0, vI 0, vI 0]))] (wCo Γ q p1 p2 p3) := by
  refine Cst.of (by decide) rfl rfl (Nat.le_of_ble_eq_true rfl) rfl ?_
  intro κ hl hk hr hR hin hE
  subst hl
  refine G_qload_n hk dX3_init_0 rfl ?_
  refine G_obj (oi := mw mX4_init) hk dX3_init_1 oiX3 oi_in oi_co (Nat.le_of_ble_eq_true rfl) ?_
  refine G_qload_n hk dX3_init_4 rfl ?_
  refine G_bipush hk dX3_init_5 (by decide) ?_
  refine G_newI hk hR 8 dX3_init_7 ar_I (by decide) (Nat.le_of_ble_eq_true rfl) (Nat.le_of_ble_eq_true rfl) (fun a1 => ?_)
  have hk := Ok_kb (a2 := 1) (b2 := 8) hk hR (Nat.le_of_ble_eq_true rfl) (Nat.le_of_ble_eq_true rfl)
  show GW (kb κ 1 8) Γ 9 [some (.ref q), some (.ref p1), some (.ref p2), some (.ref p3)] [.ref a1, .ref q] [(q, .inr (3, [.null, .null, .null, .null, .null, .null, vI 0, vI 0, vI 0, vI 0, vI 0, vI 0])), (a1, zI Γ 8)]
  refine G_putFr hk hin (q0 := 0) dX3_init_9 flX3_9 ffX3_3 rfl (Nat.le_of_ble_eq_true rfl) ?_
  show GW (kb κ 1 8) Γ 12 [some (.ref q), some (.ref p1), some (.ref p2), some (.ref p3)] [] [(q, .inr (3, [.null, .null, .null, .ref a1, .null, .null, vI 0, vI 0, vI 0, vI 0, vI 0, vI 0])), (a1, zI Γ 8)]
  refine G_qload_n hk dX3_init_12 rfl ?_
  refine G_bipush hk dX3_init_13 (by decide) ?_
  refine G_newI hk hR 12 dX3_init_15 ar_I (by decide) (Nat.le_of_ble_eq_true rfl) (Nat.le_of_ble_eq_true rfl) (fun a2 => ?_)
  have hk := Ok_kb (a2 := 2) (b2 := 20) hk hR (Nat.le_of_ble_eq_true rfl) (Nat.le_of_ble_eq_true rfl)
  show GW (kb κ 2 20) Γ 17 [some (.ref q), some (.ref p1), some (.ref p2), some (.ref p3)] [.ref a2, .ref q] [(q, .inr (3, [.null, .null, .null, .ref a1, .null, .null, vI 0, vI 0, vI 0, vI 0, vI 0, vI 0])), (a1, zI Γ 8), (a2, zI Γ 12)]
  refine G_putFr hk hin (q0 := 0) dX3_init_17 flX3_15 ffX3_4 rfl (Nat.le_of_ble_eq_true rfl) ?_
  show GW (kb κ 2 20) Γ 20 [some (.ref q), some (.ref p1), some (.ref p2), some (.ref p3)] [] [(q, .inr (3, [.null, .null, .null, .ref a1, .ref a2, .null, vI 0, vI 0, vI 0, vI 0, vI 0, vI 0])), (a1, zI Γ 8), (a2, zI Γ 12)]
  refine G_qload_n hk dX3_init_20 rfl ?_
  refine G_bipush hk dX3_init_21 (by decide) ?_
  refine G_newI hk hR 12 dX3_init_23 ar_I (by decide) (Nat.le_of_ble_eq_true rfl) (Nat.le_of_ble_eq_true rfl) (fun a3 => ?_)
  have hk := Ok_kb (a2 := 3) (b2 := 32) hk hR (Nat.le_of_ble_eq_true rfl) (Nat.le_of_ble_eq_true rfl)
  show GW (kb κ 3 32) Γ 25 [some (.ref q), some (.ref p1), some (.ref p2), some (.ref p3)] [.ref a3, .ref q] [(q, .inr (3, [.null, .null, .null, .ref a1, .ref a2, .null, vI 0, vI 0, vI 0, vI 0, vI 0, vI 0])), (a1, zI Γ 8), (a2, zI Γ 12), (a3, zI Γ 12)]
  refine G_putFr hk hin (q0 := 0) dX3_init_25 flX3_18 ffX3_5 rfl (Nat.le_of_ble_eq_true rfl) ?_
  show GW (kb κ 3 32) Γ 28 [some (.ref q), some (.ref p1), some (.ref p2), some (.ref p3)] [] [(q, .inr (3, [.null, .null, .null, .ref a1, .ref a2, .ref a3, vI 0, vI 0, vI 0, vI 0, vI 0, vI 0])), (a1, zI Γ 8), (a2, zI Γ 12), (a3, zI Γ 12)]
  refine G_qload_n hk dX3_init_28 rfl ?_
  refine G_iconst hk dX3_init_29 ?_
  refine G_putIw hk (q0 := 0) dX3_init_30 flX3_21 fpX3_10 rfl (Nat.le_of_ble_eq_true rfl) ?_
  show GW (kb κ 3 32) Γ 33 [some (.ref q), some (.ref p1), some (.ref p2), some (.ref p3)] [] [(q, .inr (3, [.null, .null, .null, .ref a1, .ref a2, .ref a3, vI 0, vI 0, vI 0, vI 0, vI (-1), vI 0])), (a1, zI Γ 8), (a2, zI Γ 12), (a3, zI Γ 12)]
  refine G_qload_n hk dX3_init_33 rfl ?_
  refine G_qload_n hk dX3_init_34 rfl ?_
  refine G_putFr hk hin (q0 := 0) dX3_init_35 flX3_25 ffX3_0 rfl (Nat.le_of_ble_eq_true rfl) ?_
  show GW (kb κ 3 32) Γ 38 [some (.ref q), some (.ref p1), some (.ref p2), some (.ref p3)] [] [(q, .inr (3, [.ref p1, .null, .null, .ref a1, .ref a2, .ref a3, vI 0, vI 0, vI 0, vI 0, vI (-1), vI 0])), (a1, zI Γ 8), (a2, zI Γ 12), (a3, zI Γ 12)]
  refine G_qload_n hk dX3_init_38 rfl ?_
  refine G_qload_n hk dX3_init_39 rfl ?_
  refine G_putFr hk hin (q0 := 0) dX3_init_40 flX3_29 ffX3_1 rfl (Nat.le_of_ble_eq_true rfl) ?_
  show GW (kb κ 3 32) Γ 43 [some (.ref q), some (.ref p1), some (.ref p2), some (.ref p3)] [] [(q, .inr (3, [.ref p1, .ref p2, .null, .ref a1, .ref a2, .ref a3, vI 0, vI 0, vI 0, vI 0, vI (-1), vI 0])), (a1, zI Γ 8), (a2, zI Γ 12), (a3, zI Γ 12)]
  refine G_qload_n hk dX3_init_43 rfl ?_
  refine G_qload_n hk dX3_init_44 rfl ?_
  refine G_putFr hk hin (q0 := 0) dX3_init_45 flX3_33 ffX3_2 rfl (Nat.le_of_ble_eq_true rfl) ?_
  show GW (kb κ 3 32) Γ 48 [some (.ref q), some (.ref p1), some (.ref p2), some (.ref p3)] [] [(q, .inr (3, [.ref p1, .ref p2, .ref p3, .ref a1, .ref a2, .ref a3, vI 0, vI 0, vI 0, vI 0, vI (-1), vI 0])), (a1, zI Γ 8), (a2, zI Γ 12), (a3, zI Γ 12)]
  exact G_vretW hk hr dX3_init_48 (Nat.le_of_ble_eq_true rfl) (Nat.le_of_ble_eq_true rfl) ⟨a1, a2, a3, rfl⟩
def wRe (Γ : Ev) (q : Nat) (w : va_W) : Prop := ∃ a1 : Nat, w = [(q, .inr (6, [.ref a1, vI 0])), (a1, zI Γ 100)]
set_option maxRecDepth 20000 in
theorem c_ReI (l : Launch) (Γ : Ev) (d q : Nat) : Cst l Γ (d + 1) 1 100 mX6_init [.ref q] (fun _ => True) [(q, .inr (6, [.null, vI 0]))] (wRe Γ q) := by
  refine Cst.of (by decide) rfl rfl (Nat.le_of_ble_eq_true rfl) rfl ?_
  intro κ hl hk hr hR hin hE
  subst hl
  refine G_qload_n hk dX6_init_0 rfl ?_
  refine G_obj (oi := mw mX4_init) hk dX6_init_1 oiX6 oi_in oi_co (Nat.le_of_ble_eq_true rfl) ?_
  refine G_qload_n hk dX6_init_4 rfl ?_
  refine G_bipush hk dX6_init_5 (by decide) ?_
  refine G_newI hk hR 100 dX6_init_7 ar_I (by decide) (Nat.le_of_ble_eq_true rfl) (Nat.le_of_ble_eq_true rfl) (fun a1 => ?_)
  have hk := Ok_kb (a2 := 1) (b2 := 100) hk hR (Nat.le_of_ble_eq_true rfl) (Nat.le_of_ble_eq_true rfl)
  show GW (kb κ 1 100) Γ 9 [some (.ref q)] [.ref a1, .ref q] [(q, .inr (6, [.null, vI 0])), (a1, zI Γ 100)]
  refine G_putFr hk hin (q0 := 0) dX6_init_9 flX6_9 ffX6_0 rfl (Nat.le_of_ble_eq_true rfl) ?_
  show GW (kb κ 1 100) Γ 12 [some (.ref q)] [] [(q, .inr (6, [.ref a1, vI 0])), (a1, zI Γ 100)]
  exact G_vretW hk hr dX6_init_12 (Nat.le_of_ble_eq_true rfl) (Nat.le_of_ble_eq_true rfl) ⟨a1, rfl⟩
def wCl (Γ : Ev) (q : Nat) (w : va_W) : Prop := ∃ a1 a2 a3 : Nat, w = [(q, .inr (2, [.ref a1, .ref a2, .ref a3])), (a1, aI Γ 4 (fun j => if j < 4 then (-1) else 0)), (a2, zI Γ 12), (a3, zI Γ 12)]
set_option maxRecDepth 20000 in
theorem c_ClI (l : Launch) (Γ : Ev) (d q : Nat) : Cst l Γ (d + 1) 3 28 mX2_init [.ref q] (fun _ => True) [(q, .inr (2, [.null, .null, .null]))] (wCl Γ q) := by
  refine Cst.of (by decide) rfl rfl (Nat.le_of_ble_eq_true rfl) rfl ?_
  intro κ hl hk hr hR hin hE
  subst hl
  refine G_qload_n hk dX2_init_0 rfl ?_
  refine G_obj (oi := mw mX4_init) hk dX2_init_1 oiX2 oi_in oi_co (Nat.le_of_ble_eq_true rfl) ?_
  refine G_qload_n hk dX2_init_4 rfl ?_
  refine G_iconst hk dX2_init_5 ?_
  refine G_newI hk hR 4 dX2_init_6 ar_I (by decide) (Nat.le_of_ble_eq_true rfl) (Nat.le_of_ble_eq_true rfl) (fun a1 => ?_)
  have hk := Ok_kb (a2 := 1) (b2 := 4) hk hR (Nat.le_of_ble_eq_true rfl) (Nat.le_of_ble_eq_true rfl)
  show GW (kb κ 1 4) Γ 8 [some (.ref q)] [.ref a1, .ref q] [(q, .inr (2, [.null, .null, .null])), (a1, zI Γ 4)]
  refine G_putFr hk hin (q0 := 0) dX2_init_8 flX2_9 ffX2_0 rfl (Nat.le_of_ble_eq_true rfl) ?_
  show GW (kb κ 1 4) Γ 11 [some (.ref q)] [] [(q, .inr (2, [.ref a1, .null, .null])), (a1, zI Γ 4)]
  refine G_qload_n hk dX2_init_11 rfl ?_
  refine G_bipush hk dX2_init_12 (by decide) ?_
  refine G_newI hk hR 12 dX2_init_14 ar_I (by decide) (Nat.le_of_ble_eq_true rfl) (Nat.le_of_ble_eq_true rfl) (fun a2 => ?_)
  have hk := Ok_kb (a2 := 2) (b2 := 16) hk hR (Nat.le_of_ble_eq_true rfl) (Nat.le_of_ble_eq_true rfl)
  show GW (kb κ 2 16) Γ 16 [some (.ref q)] [.ref a2, .ref q] [(q, .inr (2, [.ref a1, .null, .null])), (a1, zI Γ 4), (a2, zI Γ 12)]
  refine G_putFr hk hin (q0 := 0) dX2_init_16 flX2_15 ffX2_1 rfl (Nat.le_of_ble_eq_true rfl) ?_
  show GW (kb κ 2 16) Γ 19 [some (.ref q)] [] [(q, .inr (2, [.ref a1, .ref a2, .null])), (a1, zI Γ 4), (a2, zI Γ 12)]
  refine G_qload_n hk dX2_init_19 rfl ?_
  refine G_bipush hk dX2_init_20 (by decide) ?_
  refine G_newI hk hR 12 dX2_init_22 ar_I (by decide) (Nat.le_of_ble_eq_true rfl) (Nat.le_of_ble_eq_true rfl) (fun a3 => ?_)
  have hk := Ok_kb (a2 := 3) (b2 := 28) hk hR (Nat.le_of_ble_eq_true rfl) (Nat.le_of_ble_eq_true rfl)
  show GW (kb κ 3 28) Γ 24 [some (.ref q)] [.ref a3, .ref q] [(q, .inr (2, [.ref a1, .ref a2, .null])), (a1, zI Γ 4), (a2, zI Γ 12), (a3, zI Γ 12)]
  refine G_putFr hk hin (q0 := 0) dX2_init_24 flX2_18 ffX2_2 rfl (Nat.le_of_ble_eq_true rfl) ?_
  show GW (kb κ 3 28) Γ 27 [some (.ref q)] [] [(q, .inr (2, [.ref a1, .ref a2, .ref a3])), (a1, zI Γ 4), (a2, zI Γ 12), (a3, zI Γ 12)]
  refine G_qload_n hk dX2_init_27 rfl ?_
  refine G_getw hk (q0 := 0) dX2_init_28 flX2_9 rfl rfl ?_
  refine G_iconst hk dX2_init_31 ?_
  refine G_re [0, 2, 3, 1] (ws2 := [(q, .inr (2, [.ref a1, .ref a2, .ref a3])), (a2, zI Γ 12), (a3, zI Γ 12), (a1, zI Γ 4)]) rfl rfl rfl ?_
  refine G_callT (ws := [(q, .inr (2, [.ref a1, .ref a2, .ref a3])), (a2, zI Γ 12), (a3, zI Γ 12)]) (q := a1) (e0 := zI Γ 4) (As := [.ref a1, vI (-1)]) (rest := []) hk hR dX2_init_32 msJ7_fill_53178 rfl mlX2_21 rfl rfl (Nat.le_of_ble_eq_true rfl) (c_fillW _ Γ _ a1 4 (by decide) (fun _ => 0) (-1)) (Nat.le_of_ble_eq_true rfl) (Nat.le_of_ble_eq_true rfl) (fun w1 hw => ?_)
  subst hw
  have hk := Ok_kb (a2 := 3) (b2 := 28) hk hR (Nat.le_of_ble_eq_true rfl) (Nat.le_of_ble_eq_true rfl)
  refine G_re [0, 3, 1, 2] (ws2 := [(q, .inr (2, [.ref a1, .ref a2, .ref a3])), (a1, aI Γ 4 (fun j => if j < 4 then (-1) else 0)), (a2, zI Γ 12), (a3, zI Γ 12)]) rfl rfl rfl ?_
  show GW (kb κ 3 28) Γ 35 [some (.ref q)] [] [(q, .inr (2, [.ref a1, .ref a2, .ref a3])), (a1, aI Γ 4 (fun j => if j < 4 then (-1) else 0)), (a2, zI Γ 12), (a3, zI Γ 12)]
  exact G_vretW hk hr dX2_init_35 (Nat.le_of_ble_eq_true rfl) (Nat.le_of_ble_eq_true rfl) ⟨a1, a2, a3, rfl⟩
def wWi (Γ : Ev) (q : Nat) (w : va_W) : Prop := ∃ a1 a2 a3 a4 a5 : Nat, w = [(q, .inr (9, [.ref a1, .ref a4, .ref a5])), (a1, .inr (7, [.ref a2, .ref a3, vI 0])), (a2, zI Γ 8), (a3, zI Γ 8), (a4, zI Γ 8), (a5, zI Γ 8)]
set_option maxRecDepth 20000 in
theorem c_WiI (l : Launch) (Γ : Ev) (d q : Nat) : Cst l Γ (d + 2) 5 35 mX9_init [.ref q] (fun _ => True) [(q, .inr (9, [.null, .null, .null]))] (wWi Γ q) := by
  refine Cst.of (by decide) rfl rfl (Nat.le_of_ble_eq_true rfl) rfl ?_
  intro κ hl hk hr hR hin hE
  subst hl
  refine G_qload_n hk dX9_init_0 rfl ?_
  refine G_obj (oi := mw mX4_init) hk dX9_init_1 oiX9 oi_in oi_co (Nat.le_of_ble_eq_true rfl) ?_
  refine G_qload_n hk dX9_init_4 rfl ?_
  refine G_newO hk hR dX9_init_5 clkRX9_9 nwX7 (Nat.le_of_ble_eq_true rfl) (Nat.le_of_ble_eq_true rfl) (fun a1 => ?_)
  have hk := Ok_kb (a2 := 1) (b2 := 3) hk hR (Nat.le_of_ble_eq_true rfl) (Nat.le_of_ble_eq_true rfl)
  show GW (kb κ 1 3) Γ 8 [some (.ref q)] [.ref a1, .ref q] [(q, .inr (9, [.null, .null, .null])), (a1, .inr (7, [.null, .null, vI 0]))]
  refine G_dup hk dX9_init_8 rfl ?_
  refine G_bipush hk dX9_init_9 (by decide) ?_
  refine G_callC (ws := [(q, .inr (9, [.null, .null, .null]))]) (q := a1) (e0 := .inr (7, [.null, .null, vI 0])) (As := [vI 8]) (rest := [.ref a1, .ref q]) (E := fun _ => True) hk hR dX9_init_11 miX7_init (gt_in (tin1 (List.mem_of_getElem? (l := tables_1_1) (i := 191) (by decide +kernel))) rfl) rfl rfl (Nat.le_of_ble_eq_true rfl) (c_RoI8 _ Γ _ a1) (fun _ _ _ h => h) (fun _ _ => trivial) (Nat.le_of_ble_eq_true rfl) (Nat.le_of_ble_eq_true rfl) (fun w1 hw => ?_)
  obtain ⟨a2, a3, rfl⟩ := hw
  have hk := Ok_kb (a2 := 3) (b2 := 19) hk hR (Nat.le_of_ble_eq_true rfl) (Nat.le_of_ble_eq_true rfl)
  show GW (kb κ 3 19) Γ 14 [some (.ref q)] [.ref a1, .ref q] [(q, .inr (9, [.null, .null, .null])), (a1, .inr (7, [.ref a2, .ref a3, vI 0])), (a2, zI Γ 8), (a3, zI Γ 8)]
  refine G_putFr hk hin (q0 := 0) dX9_init_14 flX9_14 ffX9_0 rfl (Nat.le_of_ble_eq_true rfl) ?_
  show GW (kb κ 3 19) Γ 17 [some (.ref q)] [] [(q, .inr (9, [.ref a1, .null, .null])), (a1, .inr (7, [.ref a2, .ref a3, vI 0])), (a2, zI Γ 8), (a3, zI Γ 8)]
  refine G_qload_n hk dX9_init_17 rfl ?_
  refine G_bipush hk dX9_init_18 (by decide) ?_
  refine G_newI hk hR 8 dX9_init_20 ar_I (by decide) (Nat.le_of_ble_eq_true rfl) (Nat.le_of_ble_eq_true rfl) (fun a4 => ?_)
  have hk := Ok_kb (a2 := 4) (b2 := 27) hk hR (Nat.le_of_ble_eq_true rfl) (Nat.le_of_ble_eq_true rfl)
  show GW (kb κ 4 27) Γ 22 [some (.ref q)] [.ref a4, .ref q] [(q, .inr (9, [.ref a1, .null, .null])), (a1, .inr (7, [.ref a2, .ref a3, vI 0])), (a2, zI Γ 8), (a3, zI Γ 8), (a4, zI Γ 8)]
  refine G_putFr hk hin (q0 := 0) dX9_init_22 flX9_20 ffX9_1 rfl (Nat.le_of_ble_eq_true rfl) ?_
  show GW (kb κ 4 27) Γ 25 [some (.ref q)] [] [(q, .inr (9, [.ref a1, .ref a4, .null])), (a1, .inr (7, [.ref a2, .ref a3, vI 0])), (a2, zI Γ 8), (a3, zI Γ 8), (a4, zI Γ 8)]
  refine G_qload_n hk dX9_init_25 rfl ?_
  refine G_bipush hk dX9_init_26 (by decide) ?_
  refine G_newI hk hR 8 dX9_init_28 ar_I (by decide) (Nat.le_of_ble_eq_true rfl) (Nat.le_of_ble_eq_true rfl) (fun a5 => ?_)
  have hk := Ok_kb (a2 := 5) (b2 := 35) hk hR (Nat.le_of_ble_eq_true rfl) (Nat.le_of_ble_eq_true rfl)
  show GW (kb κ 5 35) Γ 30 [some (.ref q)] [.ref a5, .ref q] [(q, .inr (9, [.ref a1, .ref a4, .null])), (a1, .inr (7, [.ref a2, .ref a3, vI 0])), (a2, zI Γ 8), (a3, zI Γ 8), (a4, zI Γ 8), (a5, zI Γ 8)]
  refine G_putFr hk hin (q0 := 0) dX9_init_30 flX9_24 ffX9_2 rfl (Nat.le_of_ble_eq_true rfl) ?_
  show GW (kb κ 5 35) Γ 33 [some (.ref q)] [] [(q, .inr (9, [.ref a1, .ref a4, .ref a5])), (a1, .inr (7, [.ref a2, .ref a3, vI 0])), (a2, zI Γ 8), (a3, zI Γ 8), (a4, zI Γ 8), (a5, zI Γ 8)]
  exact G_vretW hk hr dX9_init_33 (Nat.le_of_ble_eq_true rfl) (Nat.le_of_ble_eq_true rfl) ⟨a1, a2, a3, a4, a5, rfl⟩
def wCh (Γ : Ev) (q : Nat) (w : va_W) : Prop := ∃ a1 : Nat, w = [(q, .inr (1, [.ref a1, vL 0, vL 1])), (a1, zJ Γ 11)]
set_option maxRecDepth 20000 in
theorem c_ChI (l : Launch) (Γ : Ev) (d q : Nat) : Cst l Γ (d + 1) 1 11 mX1_init [.ref q] (fun _ => True) [(q, .inr (1, [.null, vL 0, vL 0]))] (wCh Γ q) := by
  refine Cst.of (by decide) rfl rfl (Nat.le_of_ble_eq_true rfl) rfl ?_
  intro κ hl hk hr hR hin hE
  subst hl
  refine G_qload_n hk dX1_init_0 rfl ?_
  refine G_obj (oi := mw mX4_init) hk dX1_init_1 oiX1 oi_in oi_co (Nat.le_of_ble_eq_true rfl) ?_
  refine G_qload_n hk dX1_init_4 rfl ?_
  refine G_bipush hk dX1_init_5 (by decide) ?_
  refine G_newJ hk hR 11 dX1_init_7 ar_J (by decide) (Nat.le_of_ble_eq_true rfl) (Nat.le_of_ble_eq_true rfl) (fun a1 => ?_)
  have hk := Ok_kb (a2 := 1) (b2 := 11) hk hR (Nat.le_of_ble_eq_true rfl) (Nat.le_of_ble_eq_true rfl)
  show GW (kb κ 1 11) Γ 9 [some (.ref q)] [.ref a1, .ref q] [(q, .inr (1, [.null, vL 0, vL 0])), (a1, zJ Γ 11)]
  refine G_putFr hk hin (q0 := 0) dX1_init_9 flX1_9 ffX1_0 rfl (Nat.le_of_ble_eq_true rfl) ?_
  show GW (kb κ 1 11) Γ 12 [some (.ref q)] [] [(q, .inr (1, [.ref a1, vL 0, vL 0])), (a1, zJ Γ 11)]
  refine G_qload_n hk dX1_init_12 rfl ?_
  refine G_lconst (z := 1) hk dX1_init_13 (by decide) ?_
  refine G_putJw hk (q0 := 0) dX1_init_14 flX1_15 fpX1_2 rfl (Nat.le_of_ble_eq_true rfl) ?_
  show GW (kb κ 1 11) Γ 17 [some (.ref q)] [] [(q, .inr (1, [.ref a1, vL 0, vL 1])), (a1, zJ Γ 11)]
  exact G_vretW hk hr dX1_init_17 (Nat.le_of_ble_eq_true rfl) (Nat.le_of_ble_eq_true rfl) ⟨a1, rfl⟩
def wSh (Γ : Ev) (q : Nat) (w : va_W) : Prop := ∃ a1 : Nat, w = [(q, .inr (8, [.ref a1, vI (-1), vI 0])), (a1, zI Γ 60)]
set_option maxRecDepth 20000 in
theorem c_ShI (l : Launch) (Γ : Ev) (d q : Nat) : Cst l Γ (d + 1) 1 60 mX8_init [.ref q] (fun _ => True) [(q, .inr (8, [.null, vI 0, vI 0]))] (wSh Γ q) := by
  refine Cst.of (by decide) rfl rfl (Nat.le_of_ble_eq_true rfl) rfl ?_
  intro κ hl hk hr hR hin hE
  subst hl
  refine G_qload_n hk dX8_init_0 rfl ?_
  refine G_obj (oi := mw mX4_init) hk dX8_init_1 oiX8 oi_in oi_co (Nat.le_of_ble_eq_true rfl) ?_
  refine G_qload_n hk dX8_init_4 rfl ?_
  refine G_bipush hk dX8_init_5 (by decide) ?_
  refine G_newI hk hR 60 dX8_init_7 ar_I (by decide) (Nat.le_of_ble_eq_true rfl) (Nat.le_of_ble_eq_true rfl) (fun a1 => ?_)
  have hk := Ok_kb (a2 := 1) (b2 := 60) hk hR (Nat.le_of_ble_eq_true rfl) (Nat.le_of_ble_eq_true rfl)
  show GW (kb κ 1 60) Γ 9 [some (.ref q)] [.ref a1, .ref q] [(q, .inr (8, [.null, vI 0, vI 0])), (a1, zI Γ 60)]
  refine G_putFr hk hin (q0 := 0) dX8_init_9 flX8_9 ffX8_0 rfl (Nat.le_of_ble_eq_true rfl) ?_
  show GW (kb κ 1 60) Γ 12 [some (.ref q)] [] [(q, .inr (8, [.ref a1, vI 0, vI 0])), (a1, zI Γ 60)]
  refine G_qload_n hk dX8_init_12 rfl ?_
  refine G_iconst hk dX8_init_13 ?_
  refine G_putIw hk (q0 := 0) dX8_init_14 flX8_15 fpX8_1 rfl (Nat.le_of_ble_eq_true rfl) ?_
  show GW (kb κ 1 60) Γ 17 [some (.ref q)] [] [(q, .inr (8, [.ref a1, vI (-1), vI 0])), (a1, zI Γ 60)]
  exact G_vretW hk hr dX8_init_17 (Nat.le_of_ble_eq_true rfl) (Nat.le_of_ble_eq_true rfl) ⟨a1, rfl⟩
