/-! the tables' facts, all together -/
theorem dk_at {M a k n : Nat} (h : (List.range' a k).all (fun n => dck M n) = true) (h0 : a ≤ n) (h1 : n < a + k) : dck M n = true := List.all_eq_true.mp h n (List.mem_range'_1.mpr ⟨h0, h1⟩)
theorem dq0 (n : Nat) (h : n < szM 0) : dck 0 n = true := by
  have h : n < 14 := h
  exact dk_at dk0_0 (Nat.zero_le n) h
theorem dq1 (n : Nat) (h : n < szM 1) : dck 1 n = true := by
  have h : n < 5 := h
  exact dk_at dk1_0 (Nat.zero_le n) h
theorem dq2 (n : Nat) (h : n < szM 2) : dck 2 n = true := by
  have h : n < 70 := h
  exact (Nat.lt_or_ge n 20).elim (fun u => dk_at dk2_0 (Nat.zero_le n) u) (fun h20 => (Nat.lt_or_ge n 40).elim (fun u => dk_at dk2_20 h20 u) (fun h40 => (Nat.lt_or_ge n 60).elim (fun u => dk_at dk2_40 h40 u) (fun h60 => dk_at dk2_60 h60 h)))
theorem dq3 (n : Nat) (h : n < szM 3) : dck 3 n = true := by
  have h : n < 21 := h
  exact (Nat.lt_or_ge n 20).elim (fun u => dk_at dk3_0 (Nat.zero_le n) u) (fun h20 => dk_at dk3_20 h20 h)
theorem dq4 (n : Nat) (h : n < szM 4) : dck 4 n = true := by
  have h : n < 14 := h
  exact dk_at dk4_0 (Nat.zero_le n) h
theorem dq5 (n : Nat) (h : n < szM 5) : dck 5 n = true := by
  have h : n < 21 := h
  exact (Nat.lt_or_ge n 20).elim (fun u => dk_at dk5_0 (Nat.zero_le n) u) (fun h20 => dk_at dk5_20 h20 h)
theorem dq6 (n : Nat) (h : n < szM 6) : dck 6 n = true := by
  have h : n < 61 := h
  exact (Nat.lt_or_ge n 20).elim (fun u => dk_at dk6_0 (Nat.zero_le n) u) (fun h20 => (Nat.lt_or_ge n 40).elim (fun u => dk_at dk6_20 h20 u) (fun h40 => (Nat.lt_or_ge n 60).elim (fun u => dk_at dk6_40 h40 u) (fun h60 => dk_at dk6_60 h60 h)))
theorem dq7 (n : Nat) (h : n < szM 7) : dck 7 n = true := by
  have h : n < 58 := h
  exact (Nat.lt_or_ge n 20).elim (fun u => dk_at dk7_0 (Nat.zero_le n) u) (fun h20 => (Nat.lt_or_ge n 40).elim (fun u => dk_at dk7_20 h20 u) (fun h40 => dk_at dk7_40 h40 h))
theorem dq8 (n : Nat) (h : n < szM 8) : dck 8 n = true := by
  have h : n < 14 := h
  exact dk_at dk8_0 (Nat.zero_le n) h
theorem dq9 (n : Nat) (h : n < szM 9) : dck 9 n = true := by
  have h : n < 23 := h
  exact (Nat.lt_or_ge n 20).elim (fun u => dk_at dk9_0 (Nat.zero_le n) u) (fun h20 => dk_at dk9_20 h20 h)
theorem dq10 (n : Nat) (h : n < szM 10) : dck 10 n = true := by
  have h : n < 21 := h
  exact (Nat.lt_or_ge n 20).elim (fun u => dk_at dk10_0 (Nat.zero_le n) u) (fun h20 => dk_at dk10_20 h20 h)
theorem dq11 (n : Nat) (h : n < szM 11) : dck 11 n = true := by
  have h : n < 27 := h
  exact (Nat.lt_or_ge n 20).elim (fun u => dk_at dk11_0 (Nat.zero_le n) u) (fun h20 => dk_at dk11_20 h20 h)
theorem dq12 (n : Nat) (h : n < szM 12) : dck 12 n = true := by
  have h : n < 9 := h
  exact dk_at dk12_0 (Nat.zero_le n) h
theorem dq13 (n : Nat) (h : n < szM 13) : dck 13 n = true := by
  have h : n < 26 := h
  exact (Nat.lt_or_ge n 20).elim (fun u => dk_at dk13_0 (Nat.zero_le n) u) (fun h20 => dk_at dk13_20 h20 h)
theorem dq14 (n : Nat) (h : n < szM 14) : dck 14 n = true := by
  have h : n < 36 := h
  exact (Nat.lt_or_ge n 20).elim (fun u => dk_at dk14_0 (Nat.zero_le n) u) (fun h20 => dk_at dk14_20 h20 h)
theorem dq15 (n : Nat) (h : n < szM 15) : dck 15 n = true := by
  have h : n < 32 := h
  exact (Nat.lt_or_ge n 20).elim (fun u => dk_at dk15_0 (Nat.zero_le n) u) (fun h20 => dk_at dk15_20 h20 h)
theorem dq16 (n : Nat) (h : n < szM 16) : dck 16 n = true := by
  have h : n < 23 := h
  exact (Nat.lt_or_ge n 20).elim (fun u => dk_at dk16_0 (Nat.zero_le n) u) (fun h20 => dk_at dk16_20 h20 h)
theorem dq17 (n : Nat) (h : n < szM 17) : dck 17 n = true := by
  have h : n < 36 := h
  exact (Nat.lt_or_ge n 20).elim (fun u => dk_at dk17_0 (Nat.zero_le n) u) (fun h20 => dk_at dk17_20 h20 h)
theorem dq18 (n : Nat) (h : n < szM 18) : dck 18 n = true := by
  have h : n < 45 := h
  exact (Nat.lt_or_ge n 20).elim (fun u => dk_at dk18_0 (Nat.zero_le n) u) (fun h20 => (Nat.lt_or_ge n 40).elim (fun u => dk_at dk18_20 h20 u) (fun h40 => dk_at dk18_40 h40 h))
theorem dq19 (n : Nat) (h : n < szM 19) : dck 19 n = true := by
  have h : n < 74 := h
  exact (Nat.lt_or_ge n 20).elim (fun u => dk_at dk19_0 (Nat.zero_le n) u) (fun h20 => (Nat.lt_or_ge n 40).elim (fun u => dk_at dk19_20 h20 u) (fun h40 => (Nat.lt_or_ge n 60).elim (fun u => dk_at dk19_40 h40 u) (fun h60 => dk_at dk19_60 h60 h)))
theorem dq20 (n : Nat) (h : n < szM 20) : dck 20 n = true := by
  have h : n < 20 := h
  exact dk_at dk20_0 (Nat.zero_le n) h
theorem dq21 (n : Nat) (h : n < szM 21) : dck 21 n = true := by
  have h : n < 54 := h
  exact (Nat.lt_or_ge n 20).elim (fun u => dk_at dk21_0 (Nat.zero_le n) u) (fun h20 => (Nat.lt_or_ge n 40).elim (fun u => dk_at dk21_20 h20 u) (fun h40 => dk_at dk21_40 h40 h))
theorem dq22 (n : Nat) (h : n < szM 22) : dck 22 n = true := by
  have h : n < 14 := h
  exact dk_at dk22_0 (Nat.zero_le n) h
theorem dq23 (n : Nat) (h : n < szM 23) : dck 23 n = true := by
  have h : n < 22 := h
  exact (Nat.lt_or_ge n 20).elim (fun u => dk_at dk23_0 (Nat.zero_le n) u) (fun h20 => dk_at dk23_20 h20 h)
theorem dq24 (n : Nat) (h : n < szM 24) : dck 24 n = true := by
  have h : n < 23 := h
  exact (Nat.lt_or_ge n 20).elim (fun u => dk_at dk24_0 (Nat.zero_le n) u) (fun h20 => dk_at dk24_20 h20 h)
theorem dq25 (n : Nat) (h : n < szM 25) : dck 25 n = true := by
  have h : n < 52 := h
  exact (Nat.lt_or_ge n 20).elim (fun u => dk_at dk25_0 (Nat.zero_le n) u) (fun h20 => (Nat.lt_or_ge n 40).elim (fun u => dk_at dk25_20 h20 u) (fun h40 => dk_at dk25_40 h40 h))
theorem dq26 (n : Nat) (h : n < szM 26) : dck 26 n = true := by
  have h : n < 32 := h
  exact (Nat.lt_or_ge n 20).elim (fun u => dk_at dk26_0 (Nat.zero_le n) u) (fun h20 => dk_at dk26_20 h20 h)
theorem dq27 (n : Nat) (h : n < szM 27) : dck 27 n = true := by
  have h : n < 31 := h
  exact (Nat.lt_or_ge n 20).elim (fun u => dk_at dk27_0 (Nat.zero_le n) u) (fun h20 => dk_at dk27_20 h20 h)
theorem dq28 (n : Nat) (h : n < szM 28) : dck 28 n = true := by
  have h : n < 31 := h
  exact (Nat.lt_or_ge n 20).elim (fun u => dk_at dk28_0 (Nat.zero_le n) u) (fun h20 => dk_at dk28_20 h20 h)
theorem dq29 (n : Nat) (h : n < szM 29) : dck 29 n = true := by
  have h : n < 3 := h
  exact dk_at dk29_0 (Nat.zero_le n) h
theorem dq30 (n : Nat) (h : n < szM 30) : dck 30 n = true := by
  have h : n < 3 := h
  exact dk_at dk30_0 (Nat.zero_le n) h
theorem dq31 (n : Nat) (h : n < szM 31) : dck 31 n = true := by
  have h : n < 14 := h
  exact dk_at dk31_0 (Nat.zero_le n) h
theorem dq32 (n : Nat) (h : n < szM 32) : dck 32 n = true := by
  have h : n < 74 := h
  exact (Nat.lt_or_ge n 20).elim (fun u => dk_at dk32_0 (Nat.zero_le n) u) (fun h20 => (Nat.lt_or_ge n 40).elim (fun u => dk_at dk32_20 h20 u) (fun h40 => (Nat.lt_or_ge n 60).elim (fun u => dk_at dk32_40 h40 u) (fun h60 => dk_at dk32_60 h60 h)))
theorem dq33 (n : Nat) (h : n < szM 33) : dck 33 n = true := by
  have h : n < 19 := h
  exact dk_at dk33_0 (Nat.zero_le n) h
theorem dq34 (n : Nat) (h : n < szM 34) : dck 34 n = true := by
  have h : n < 20 := h
  exact dk_at dk34_0 (Nat.zero_le n) h
theorem dq35 (n : Nat) (h : n < szM 35) : dck 35 n = true := by
  have h : n < 71 := h
  exact (Nat.lt_or_ge n 20).elim (fun u => dk_at dk35_0 (Nat.zero_le n) u) (fun h20 => (Nat.lt_or_ge n 40).elim (fun u => dk_at dk35_20 h20 u) (fun h40 => (Nat.lt_or_ge n 60).elim (fun u => dk_at dk35_40 h40 u) (fun h60 => dk_at dk35_60 h60 h)))
theorem dq36 (n : Nat) (h : n < szM 36) : dck 36 n = true := by
  have h : n < 36 := h
  exact (Nat.lt_or_ge n 20).elim (fun u => dk_at dk36_0 (Nat.zero_le n) u) (fun h20 => dk_at dk36_20 h20 h)
theorem dq37 (n : Nat) (h : n < szM 37) : dck 37 n = true := by
  have h : n < 10 := h
  exact dk_at dk37_0 (Nat.zero_le n) h
theorem dq38 (n : Nat) (h : n < szM 38) : dck 38 n = true := by
  have h : n < 4 := h
  exact dk_at dk38_0 (Nat.zero_le n) h
theorem dq39 (n : Nat) (h : n < szM 39) : dck 39 n = true := by
  have h : n < 8 := h
  exact dk_at dk39_0 (Nat.zero_le n) h
theorem dq40 (n : Nat) (h : n < szM 40) : dck 40 n = true := by
  have h : n < 22 := h
  exact (Nat.lt_or_ge n 20).elim (fun u => dk_at dk40_0 (Nat.zero_le n) u) (fun h20 => dk_at dk40_20 h20 h)
theorem dq41 (n : Nat) (h : n < szM 41) : dck 41 n = true := by
  have h : n < 39 := h
  exact (Nat.lt_or_ge n 20).elim (fun u => dk_at dk41_0 (Nat.zero_le n) u) (fun h20 => dk_at dk41_20 h20 h)
theorem dq42 (n : Nat) (h : n < szM 42) : dck 42 n = true := by
  have h : n < 41 := h
  exact (Nat.lt_or_ge n 20).elim (fun u => dk_at dk42_0 (Nat.zero_le n) u) (fun h20 => (Nat.lt_or_ge n 40).elim (fun u => dk_at dk42_20 h20 u) (fun h40 => dk_at dk42_40 h40 h))
theorem dq43 (n : Nat) (h : n < szM 43) : dck 43 n = true := by
  have h : n < 28 := h
  exact (Nat.lt_or_ge n 20).elim (fun u => dk_at dk43_0 (Nat.zero_le n) u) (fun h20 => dk_at dk43_20 h20 h)
theorem dq44 (n : Nat) (h : n < szM 44) : dck 44 n = true := by
  have h : n < 28 := h
  exact (Nat.lt_or_ge n 20).elim (fun u => dk_at dk44_0 (Nat.zero_le n) u) (fun h20 => dk_at dk44_20 h20 h)
theorem dq45 (n : Nat) (h : n < szM 45) : dck 45 n = true := by
  have h : n < 77 := h
  exact (Nat.lt_or_ge n 20).elim (fun u => dk_at dk45_0 (Nat.zero_le n) u) (fun h20 => (Nat.lt_or_ge n 40).elim (fun u => dk_at dk45_20 h20 u) (fun h40 => (Nat.lt_or_ge n 60).elim (fun u => dk_at dk45_40 h40 u) (fun h60 => dk_at dk45_60 h60 h)))
theorem dq46 (n : Nat) (h : n < szM 46) : dck 46 n = true := by
  have h : n < 13 := h
  exact dk_at dk46_0 (Nat.zero_le n) h
theorem dq47 (n : Nat) (h : n < szM 47) : dck 47 n = true := by
  have h : n < 18 := h
  exact dk_at dk47_0 (Nat.zero_le n) h
theorem dq48 (n : Nat) (h : n < szM 48) : dck 48 n = true := by
  have h : n < 47 := h
  exact (Nat.lt_or_ge n 20).elim (fun u => dk_at dk48_0 (Nat.zero_le n) u) (fun h20 => (Nat.lt_or_ge n 40).elim (fun u => dk_at dk48_20 h20 u) (fun h40 => dk_at dk48_40 h40 h))
theorem dq49 (n : Nat) (h : n < szM 49) : dck 49 n = true := by
  have h : n < 12 := h
  exact dk_at dk49_0 (Nat.zero_le n) h
theorem dq50 (n : Nat) (h : n < szM 50) : dck 50 n = true := by
  have h : n < 12 := h
  exact dk_at dk50_0 (Nat.zero_le n) h
theorem dq51 (n : Nat) (h : n < szM 51) : dck 51 n = true := by
  have h : n < 12 := h
  exact dk_at dk51_0 (Nat.zero_le n) h
theorem dq52 (n : Nat) (h : n < szM 52) : dck 52 n = true := by
  have h : n < 12 := h
  exact dk_at dk52_0 (Nat.zero_le n) h
theorem dq53 (n : Nat) (h : n < szM 53) : dck 53 n = true := by
  have h : n < 36 := h
  exact (Nat.lt_or_ge n 20).elim (fun u => dk_at dk53_0 (Nat.zero_le n) u) (fun h20 => dk_at dk53_20 h20 h)
theorem dq54 (n : Nat) (h : n < szM 54) : dck 54 n = true := by
  have h : n < 20 := h
  exact dk_at dk54_0 (Nat.zero_le n) h
theorem dq55 (n : Nat) (h : n < szM 55) : dck 55 n = true := by
  have h : n < 3 := h
  exact dk_at dk55_0 (Nat.zero_le n) h
theorem dq56 (n : Nat) (h : n < szM 56) : dck 56 n = true := by
  have h : n < 10 := h
  exact dk_at dk56_0 (Nat.zero_le n) h
theorem dq57 (n : Nat) (h : n < szM 57) : dck 57 n = true := by
  have h : n < 9 := h
  exact dk_at dk57_0 (Nat.zero_le n) h
theorem dq58 (n : Nat) (h : n < szM 58) : dck 58 n = true := by
  have h : n < 27 := h
  exact (Nat.lt_or_ge n 20).elim (fun u => dk_at dk58_0 (Nat.zero_le n) u) (fun h20 => dk_at dk58_20 h20 h)
theorem dq59 (n : Nat) (h : n < szM 59) : dck 59 n = true := by
  have h : n < 30 := h
  exact (Nat.lt_or_ge n 20).elim (fun u => dk_at dk59_0 (Nat.zero_le n) u) (fun h20 => dk_at dk59_20 h20 h)
theorem dq60 (n : Nat) (h : n < szM 60) : dck 60 n = true := by
  have h : n < 36 := h
  exact (Nat.lt_or_ge n 20).elim (fun u => dk_at dk60_0 (Nat.zero_le n) u) (fun h20 => dk_at dk60_20 h20 h)
theorem dq61 (n : Nat) (h : n < szM 61) : dck 61 n = true := by
  have h : n < 26 := h
  exact (Nat.lt_or_ge n 20).elim (fun u => dk_at dk61_0 (Nat.zero_le n) u) (fun h20 => dk_at dk61_20 h20 h)
theorem dq62 (n : Nat) (h : n < szM 62) : dck 62 n = true := by
  have h : n < 9 := h
  exact dk_at dk62_0 (Nat.zero_le n) h
theorem dq63 (n : Nat) (h : n < szM 63) : dck 63 n = true := by
  have h : n < 27 := h
  exact (Nat.lt_or_ge n 20).elim (fun u => dk_at dk63_0 (Nat.zero_le n) u) (fun h20 => dk_at dk63_20 h20 h)
theorem dq64 (n : Nat) (h : n < szM 64) : dck 64 n = true := by
  have h : n < 10 := h
  exact dk_at dk64_0 (Nat.zero_le n) h
theorem dq65 (n : Nat) (h : n < szM 65) : dck 65 n = true := by
  have h : n < 3 := h
  exact dk_at dk65_0 (Nat.zero_le n) h
theorem dq66 (n : Nat) (h : n < szM 66) : dck 66 n = true := by
  have h : n < 18 := h
  exact dk_at dk66_0 (Nat.zero_le n) h
theorem dq67 (n : Nat) (h : n < szM 67) : dck 67 n = true := by
  have h : n < 32 := h
  exact (Nat.lt_or_ge n 20).elim (fun u => dk_at dk67_0 (Nat.zero_le n) u) (fun h20 => dk_at dk67_20 h20 h)
theorem dq68 (n : Nat) (h : n < szM 68) : dck 68 n = true := by
  have h : n < 13 := h
  exact dk_at dk68_0 (Nat.zero_le n) h
theorem dq69 (n : Nat) (h : n < szM 69) : dck 69 n = true := by
  have h : n < 17 := h
  exact dk_at dk69_0 (Nat.zero_le n) h
theorem dq70 (n : Nat) (h : n < szM 70) : dck 70 n = true := by
  have h : n < 44 := h
  exact (Nat.lt_or_ge n 20).elim (fun u => dk_at dk70_0 (Nat.zero_le n) u) (fun h20 => (Nat.lt_or_ge n 40).elim (fun u => dk_at dk70_20 h20 u) (fun h40 => dk_at dk70_40 h40 h))
theorem dq71 (n : Nat) (h : n < szM 71) : dck 71 n = true := by
  have h : n < 34 := h
  exact (Nat.lt_or_ge n 20).elim (fun u => dk_at dk71_0 (Nat.zero_le n) u) (fun h20 => dk_at dk71_20 h20 h)
theorem dq72 (n : Nat) (h : n < szM 72) : dck 72 n = true := by
  have h : n < 10 := h
  exact dk_at dk72_0 (Nat.zero_le n) h
theorem dq73 (n : Nat) (h : n < szM 73) : dck 73 n = true := by
  have h : n < 10 := h
  exact dk_at dk73_0 (Nat.zero_le n) h
theorem dq74 (n : Nat) (h : n < szM 74) : dck 74 n = true := by
  have h : n < 36 := h
  exact (Nat.lt_or_ge n 20).elim (fun u => dk_at dk74_0 (Nat.zero_le n) u) (fun h20 => dk_at dk74_20 h20 h)
theorem dq75 (n : Nat) (h : n < szM 75) : dck 75 n = true := by
  have h : n < 24 := h
  exact (Nat.lt_or_ge n 20).elim (fun u => dk_at dk75_0 (Nat.zero_le n) u) (fun h20 => dk_at dk75_20 h20 h)
theorem dq76 (n : Nat) (h : n < szM 76) : dck 76 n = true := by
  have h : n < 28 := h
  exact (Nat.lt_or_ge n 20).elim (fun u => dk_at dk76_0 (Nat.zero_le n) u) (fun h20 => dk_at dk76_20 h20 h)
theorem dq77 (n : Nat) (h : n < szM 77) : dck 77 n = true := by
  have h : n < 59 := h
  exact (Nat.lt_or_ge n 20).elim (fun u => dk_at dk77_0 (Nat.zero_le n) u) (fun h20 => (Nat.lt_or_ge n 40).elim (fun u => dk_at dk77_20 h20 u) (fun h40 => dk_at dk77_40 h40 h))
theorem dq78 (n : Nat) (h : n < szM 78) : dck 78 n = true := by
  have h : n < 38 := h
  exact (Nat.lt_or_ge n 20).elim (fun u => dk_at dk78_0 (Nat.zero_le n) u) (fun h20 => dk_at dk78_20 h20 h)
theorem dq79 (n : Nat) (h : n < szM 79) : dck 79 n = true := by
  have h : n < 22 := h
  exact (Nat.lt_or_ge n 20).elim (fun u => dk_at dk79_0 (Nat.zero_le n) u) (fun h20 => dk_at dk79_20 h20 h)
theorem dq80 (n : Nat) (h : n < szM 80) : dck 80 n = true := by
  have h : n < 17 := h
  exact dk_at dk80_0 (Nat.zero_le n) h
theorem dq81 (n : Nat) (h : n < szM 81) : dck 81 n = true := by
  have h : n < 37 := h
  exact (Nat.lt_or_ge n 20).elim (fun u => dk_at dk81_0 (Nat.zero_le n) u) (fun h20 => dk_at dk81_20 h20 h)
theorem dq82 (n : Nat) (h : n < szM 82) : dck 82 n = true := by
  have h : n < 38 := h
  exact (Nat.lt_or_ge n 20).elim (fun u => dk_at dk82_0 (Nat.zero_le n) u) (fun h20 => dk_at dk82_20 h20 h)
theorem dq83 (n : Nat) (h : n < szM 83) : dck 83 n = true := by
  have h : n < 101 := h
  exact (Nat.lt_or_ge n 20).elim (fun u => dk_at dk83_0 (Nat.zero_le n) u) (fun h20 => (Nat.lt_or_ge n 40).elim (fun u => dk_at dk83_20 h20 u) (fun h40 => (Nat.lt_or_ge n 60).elim (fun u => dk_at dk83_40 h40 u) (fun h60 => (Nat.lt_or_ge n 80).elim (fun u => dk_at dk83_60 h60 u) (fun h80 => (Nat.lt_or_ge n 100).elim (fun u => dk_at dk83_80 h80 u) (fun h100 => dk_at dk83_100 h100 h)))))
theorem dq84 (n : Nat) (h : n < szM 84) : dck 84 n = true := by
  have h : n < 14 := h
  exact dk_at dk84_0 (Nat.zero_le n) h
theorem dq85 (n : Nat) (h : n < szM 85) : dck 85 n = true := by
  have h : n < 13 := h
  exact dk_at dk85_0 (Nat.zero_le n) h
theorem dq86 (n : Nat) (h : n < szM 86) : dck 86 n = true := by
  have h : n < 14 := h
  exact dk_at dk86_0 (Nat.zero_le n) h
theorem dq87 (n : Nat) (h : n < szM 87) : dck 87 n = true := by
  have h : n < 13 := h
  exact dk_at dk87_0 (Nat.zero_le n) h
theorem dq88 (n : Nat) (h : n < szM 88) : dck 88 n = true := by
  have h : n < 14 := h
  exact dk_at dk88_0 (Nat.zero_le n) h
theorem dq89 (n : Nat) (h : n < szM 89) : dck 89 n = true := by
  have h : n < 13 := h
  exact dk_at dk89_0 (Nat.zero_le n) h
theorem dq90 (n : Nat) (h : n < szM 90) : dck 90 n = true := by
  have h : n < 14 := h
  exact dk_at dk90_0 (Nat.zero_le n) h
theorem dq91 (n : Nat) (h : n < szM 91) : dck 91 n = true := by
  have h : n < 23 := h
  exact (Nat.lt_or_ge n 20).elim (fun u => dk_at dk91_0 (Nat.zero_le n) u) (fun h20 => dk_at dk91_20 h20 h)
theorem dq92 (n : Nat) (h : n < szM 92) : dck 92 n = true := by
  have h : n < 17 := h
  exact dk_at dk92_0 (Nat.zero_le n) h
theorem dq93 (n : Nat) (h : n < szM 93) : dck 93 n = true := by
  have h : n < 6 := h
  exact dk_at dk93_0 (Nat.zero_le n) h
theorem dq94 (n : Nat) (h : n < szM 94) : dck 94 n = true := by
  have h : n < 6 := h
  exact dk_at dk94_0 (Nat.zero_le n) h
theorem dq95 (n : Nat) (h : n < szM 95) : dck 95 n = true := by
  have h : n < 6 := h
  exact dk_at dk95_0 (Nat.zero_le n) h
theorem dq96 (n : Nat) (h : n < szM 96) : dck 96 n = true := by
  have h : n < 6 := h
  exact dk_at dk96_0 (Nat.zero_le n) h
theorem dq97 (n : Nat) (h : n < szM 97) : dck 97 n = true := by
  have h : n < 18 := h
  exact dk_at dk97_0 (Nat.zero_le n) h
theorem dq98 (n : Nat) (h : n < szM 98) : dck 98 n = true := by
  have h : n < 24 := h
  exact (Nat.lt_or_ge n 20).elim (fun u => dk_at dk98_0 (Nat.zero_le n) u) (fun h20 => dk_at dk98_20 h20 h)
theorem dq99 (n : Nat) (h : n < szM 99) : dck 99 n = true := by
  have h : n < 18 := h
  exact dk_at dk99_0 (Nat.zero_le n) h
theorem dq100 (n : Nat) (h : n < szM 100) : dck 100 n = true := by
  have h : n < 21 := h
  exact (Nat.lt_or_ge n 20).elim (fun u => dk_at dk100_0 (Nat.zero_le n) u) (fun h20 => dk_at dk100_20 h20 h)
theorem dq101 (n : Nat) (h : n < szM 101) : dck 101 n = true := by
  have h : n < 26 := h
  exact (Nat.lt_or_ge n 20).elim (fun u => dk_at dk101_0 (Nat.zero_le n) u) (fun h20 => dk_at dk101_20 h20 h)
theorem dq102 (n : Nat) (h : n < szM 102) : dck 102 n = true := by
  have h : n < 35 := h
  exact (Nat.lt_or_ge n 20).elim (fun u => dk_at dk102_0 (Nat.zero_le n) u) (fun h20 => dk_at dk102_20 h20 h)
theorem dq103 (n : Nat) (h : n < szM 103) : dck 103 n = true := by
  have h : n < 40 := h
  exact (Nat.lt_or_ge n 20).elim (fun u => dk_at dk103_0 (Nat.zero_le n) u) (fun h20 => dk_at dk103_20 h20 h)
theorem dq104 (n : Nat) (h : n < szM 104) : dck 104 n = true := by
  have h : n < 100 := h
  exact (Nat.lt_or_ge n 20).elim (fun u => dk_at dk104_0 (Nat.zero_le n) u) (fun h20 => (Nat.lt_or_ge n 40).elim (fun u => dk_at dk104_20 h20 u) (fun h40 => (Nat.lt_or_ge n 60).elim (fun u => dk_at dk104_40 h40 u) (fun h60 => (Nat.lt_or_ge n 80).elim (fun u => dk_at dk104_60 h60 u) (fun h80 => dk_at dk104_80 h80 h))))
theorem dq105 (n : Nat) (h : n < szM 105) : dck 105 n = true := by
  have h : n < 6 := h
  exact dk_at dk105_0 (Nat.zero_le n) h
theorem dq106 (n : Nat) (h : n < szM 106) : dck 106 n = true := by
  have h : n < 57 := h
  exact (Nat.lt_or_ge n 20).elim (fun u => dk_at dk106_0 (Nat.zero_le n) u) (fun h20 => (Nat.lt_or_ge n 40).elim (fun u => dk_at dk106_20 h20 u) (fun h40 => dk_at dk106_40 h40 h))
theorem dq107 (n : Nat) (h : n < szM 107) : dck 107 n = true := by
  have h : n < 33 := h
  exact (Nat.lt_or_ge n 20).elim (fun u => dk_at dk107_0 (Nat.zero_le n) u) (fun h20 => dk_at dk107_20 h20 h)
theorem dq108 (n : Nat) (h : n < szM 108) : dck 108 n = true := by
  have h : n < 46 := h
  exact (Nat.lt_or_ge n 20).elim (fun u => dk_at dk108_0 (Nat.zero_le n) u) (fun h20 => (Nat.lt_or_ge n 40).elim (fun u => dk_at dk108_20 h20 u) (fun h40 => dk_at dk108_40 h40 h))
theorem dq109 (n : Nat) (h : n < szM 109) : dck 109 n = true := by
  have h : n < 24 := h
  exact (Nat.lt_or_ge n 20).elim (fun u => dk_at dk109_0 (Nat.zero_le n) u) (fun h20 => dk_at dk109_20 h20 h)
theorem dq110 (n : Nat) (h : n < szM 110) : dck 110 n = true := by
  have h : n < 52 := h
  exact (Nat.lt_or_ge n 20).elim (fun u => dk_at dk110_0 (Nat.zero_le n) u) (fun h20 => (Nat.lt_or_ge n 40).elim (fun u => dk_at dk110_20 h20 u) (fun h40 => dk_at dk110_40 h40 h))
theorem dq111 (n : Nat) (h : n < szM 111) : dck 111 n = true := by
  have h : n < 9 := h
  exact dk_at dk111_0 (Nat.zero_le n) h
theorem dq112 (n : Nat) (h : n < szM 112) : dck 112 n = true := by
  have h : n < 7 := h
  exact dk_at dk112_0 (Nat.zero_le n) h
theorem dq113 (n : Nat) (h : n < szM 113) : dck 113 n = true := by
  have h : n < 3 := h
  exact dk_at dk113_0 (Nat.zero_le n) h
theorem dq114 (n : Nat) (h : n < szM 114) : dck 114 n = true := by
  have h : n < 50 := h
  exact (Nat.lt_or_ge n 20).elim (fun u => dk_at dk114_0 (Nat.zero_le n) u) (fun h20 => (Nat.lt_or_ge n 40).elim (fun u => dk_at dk114_20 h20 u) (fun h40 => dk_at dk114_40 h40 h))
theorem dq115 (n : Nat) (h : n < szM 115) : dck 115 n = true := by
  have h : n < 67 := h
  exact (Nat.lt_or_ge n 20).elim (fun u => dk_at dk115_0 (Nat.zero_le n) u) (fun h20 => (Nat.lt_or_ge n 40).elim (fun u => dk_at dk115_20 h20 u) (fun h40 => (Nat.lt_or_ge n 60).elim (fun u => dk_at dk115_40 h40 u) (fun h60 => dk_at dk115_60 h60 h)))
theorem dq116 (n : Nat) (h : n < szM 116) : dck 116 n = true := by
  have h : n < 33 := h
  exact (Nat.lt_or_ge n 20).elim (fun u => dk_at dk116_0 (Nat.zero_le n) u) (fun h20 => dk_at dk116_20 h20 h)
theorem dq117 (n : Nat) (h : n < szM 117) : dck 117 n = true := by
  have h : n < 5 := h
  exact dk_at dk117_0 (Nat.zero_le n) h
theorem dq118 (n : Nat) (h : n < szM 118) : dck 118 n = true := by
  have h : n < 42 := h
  exact (Nat.lt_or_ge n 20).elim (fun u => dk_at dk118_0 (Nat.zero_le n) u) (fun h20 => (Nat.lt_or_ge n 40).elim (fun u => dk_at dk118_20 h20 u) (fun h40 => dk_at dk118_40 h40 h))
theorem dq119 (n : Nat) (h : n < szM 119) : dck 119 n = true := by
  have h : n < 31 := h
  exact (Nat.lt_or_ge n 20).elim (fun u => dk_at dk119_0 (Nat.zero_le n) u) (fun h20 => dk_at dk119_20 h20 h)
theorem dq120 (n : Nat) (h : n < szM 120) : dck 120 n = true := by
  have h : n < 3 := h
  exact dk_at dk120_0 (Nat.zero_le n) h
theorem dq121 (n : Nat) (h : n < szM 121) : dck 121 n = true := by
  have h : n < 29 := h
  exact (Nat.lt_or_ge n 20).elim (fun u => dk_at dk121_0 (Nat.zero_le n) u) (fun h20 => dk_at dk121_20 h20 h)
theorem dq122 (n : Nat) (h : n < szM 122) : dck 122 n = true := by
  have h : n < 10 := h
  exact dk_at dk122_0 (Nat.zero_le n) h
theorem dq123 (n : Nat) (h : n < szM 123) : dck 123 n = true := by
  have h : n < 7 := h
  exact dk_at dk123_0 (Nat.zero_le n) h
theorem dq124 (n : Nat) (h : n < szM 124) : dck 124 n = true := by
  have h : n < 23 := h
  exact (Nat.lt_or_ge n 20).elim (fun u => dk_at dk124_0 (Nat.zero_le n) u) (fun h20 => dk_at dk124_20 h20 h)
theorem dq125 (n : Nat) (h : n < szM 125) : dck 125 n = true := by
  have h : n < 17 := h
  exact dk_at dk125_0 (Nat.zero_le n) h
theorem dq126 (n : Nat) (h : n < szM 126) : dck 126 n = true := by
  have h : n < 16 := h
  exact dk_at dk126_0 (Nat.zero_le n) h
theorem dq127 (n : Nat) (h : n < szM 127) : dck 127 n = true := by
  have h : n < 14 := h
  exact dk_at dk127_0 (Nat.zero_le n) h
theorem dq128 (n : Nat) (h : n < szM 128) : dck 128 n = true := by
  have h : n < 61 := h
  exact (Nat.lt_or_ge n 20).elim (fun u => dk_at dk128_0 (Nat.zero_le n) u) (fun h20 => (Nat.lt_or_ge n 40).elim (fun u => dk_at dk128_20 h20 u) (fun h40 => (Nat.lt_or_ge n 60).elim (fun u => dk_at dk128_40 h40 u) (fun h60 => dk_at dk128_60 h60 h)))
theorem dq129 (n : Nat) (h : n < szM 129) : dck 129 n = true := by
  have h : n < 17 := h
  exact dk_at dk129_0 (Nat.zero_le n) h
theorem dq130 (n : Nat) (h : n < szM 130) : dck 130 n = true := by
  have h : n < 23 := h
  exact (Nat.lt_or_ge n 20).elim (fun u => dk_at dk130_0 (Nat.zero_le n) u) (fun h20 => dk_at dk130_20 h20 h)
theorem dq131 (n : Nat) (h : n < szM 131) : dck 131 n = true := by
  have h : n < 57 := h
  exact (Nat.lt_or_ge n 20).elim (fun u => dk_at dk131_0 (Nat.zero_le n) u) (fun h20 => (Nat.lt_or_ge n 40).elim (fun u => dk_at dk131_20 h20 u) (fun h40 => dk_at dk131_40 h40 h))
theorem dq132 (n : Nat) (h : n < szM 132) : dck 132 n = true := by
  have h : n < 20 := h
  exact dk_at dk132_0 (Nat.zero_le n) h
theorem dq133 (n : Nat) (h : n < szM 133) : dck 133 n = true := by
  have h : n < 49 := h
  exact (Nat.lt_or_ge n 20).elim (fun u => dk_at dk133_0 (Nat.zero_le n) u) (fun h20 => (Nat.lt_or_ge n 40).elim (fun u => dk_at dk133_20 h20 u) (fun h40 => dk_at dk133_40 h40 h))
theorem dq134 (n : Nat) (h : n < szM 134) : dck 134 n = true := by
  have h : n < 37 := h
  exact (Nat.lt_or_ge n 20).elim (fun u => dk_at dk134_0 (Nat.zero_le n) u) (fun h20 => dk_at dk134_20 h20 h)
theorem dq135 (n : Nat) (h : n < szM 135) : dck 135 n = true := by
  have h : n < 13 := h
  exact dk_at dk135_0 (Nat.zero_le n) h
theorem dq136 (n : Nat) (h : n < szM 136) : dck 136 n = true := by
  have h : n < 25 := h
  exact (Nat.lt_or_ge n 20).elim (fun u => dk_at dk136_0 (Nat.zero_le n) u) (fun h20 => dk_at dk136_20 h20 h)
theorem dq137 (n : Nat) (h : n < szM 137) : dck 137 n = true := by
  have h : n < 17 := h
  exact dk_at dk137_0 (Nat.zero_le n) h
theorem dq138 (n : Nat) (h : n < szM 138) : dck 138 n = true := by
  have h : n < 51 := h
  exact (Nat.lt_or_ge n 20).elim (fun u => dk_at dk138_0 (Nat.zero_le n) u) (fun h20 => (Nat.lt_or_ge n 40).elim (fun u => dk_at dk138_20 h20 u) (fun h40 => dk_at dk138_40 h40 h))
theorem dq139 (n : Nat) (h : n < szM 139) : dck 139 n = true := by
  have h : n < 13 := h
  exact dk_at dk139_0 (Nat.zero_le n) h
theorem dq140 (n : Nat) (h : n < szM 140) : dck 140 n = true := by
  have h : n < 46 := h
  exact (Nat.lt_or_ge n 20).elim (fun u => dk_at dk140_0 (Nat.zero_le n) u) (fun h20 => (Nat.lt_or_ge n 40).elim (fun u => dk_at dk140_20 h20 u) (fun h40 => dk_at dk140_40 h40 h))
theorem dq141 (n : Nat) (h : n < szM 141) : dck 141 n = true := by
  have h : n < 31 := h
  exact (Nat.lt_or_ge n 20).elim (fun u => dk_at dk141_0 (Nat.zero_le n) u) (fun h20 => dk_at dk141_20 h20 h)
theorem dq142 (n : Nat) (h : n < szM 142) : dck 142 n = true := by
  have h : n < 17 := h
  exact dk_at dk142_0 (Nat.zero_le n) h
theorem dq143 (n : Nat) (h : n < szM 143) : dck 143 n = true := by
  have h : n < 4 := h
  exact dk_at dk143_0 (Nat.zero_le n) h
theorem dq144 (n : Nat) (h : n < szM 144) : dck 144 n = true := by
  have h : n < 21 := h
  exact (Nat.lt_or_ge n 20).elim (fun u => dk_at dk144_0 (Nat.zero_le n) u) (fun h20 => dk_at dk144_20 h20 h)
theorem dq145 (n : Nat) (h : n < szM 145) : dck 145 n = true := by
  have h : n < 40 := h
  exact (Nat.lt_or_ge n 20).elim (fun u => dk_at dk145_0 (Nat.zero_le n) u) (fun h20 => dk_at dk145_20 h20 h)
theorem dq146 (n : Nat) (h : n < szM 146) : dck 146 n = true := by
  have h : n < 48 := h
  exact (Nat.lt_or_ge n 20).elim (fun u => dk_at dk146_0 (Nat.zero_le n) u) (fun h20 => (Nat.lt_or_ge n 40).elim (fun u => dk_at dk146_20 h20 u) (fun h40 => dk_at dk146_40 h40 h))
theorem dq147 (n : Nat) (h : n < szM 147) : dck 147 n = true := by
  have h : n < 21 := h
  exact (Nat.lt_or_ge n 20).elim (fun u => dk_at dk147_0 (Nat.zero_le n) u) (fun h20 => dk_at dk147_20 h20 h)
theorem dq148 (n : Nat) (h : n < szM 148) : dck 148 n = true := by
  have h : n < 43 := h
  exact (Nat.lt_or_ge n 20).elim (fun u => dk_at dk148_0 (Nat.zero_le n) u) (fun h20 => (Nat.lt_or_ge n 40).elim (fun u => dk_at dk148_20 h20 u) (fun h40 => dk_at dk148_40 h40 h))
theorem dq149 (n : Nat) (h : n < szM 149) : dck 149 n = true := by
  have h : n < 44 := h
  exact (Nat.lt_or_ge n 20).elim (fun u => dk_at dk149_0 (Nat.zero_le n) u) (fun h20 => (Nat.lt_or_ge n 40).elim (fun u => dk_at dk149_20 h20 u) (fun h40 => dk_at dk149_40 h40 h))
theorem dq150 (n : Nat) (h : n < szM 150) : dck 150 n = true := by
  have h : n < 49 := h
  exact (Nat.lt_or_ge n 20).elim (fun u => dk_at dk150_0 (Nat.zero_le n) u) (fun h20 => (Nat.lt_or_ge n 40).elim (fun u => dk_at dk150_20 h20 u) (fun h40 => dk_at dk150_40 h40 h))
theorem dq151 (n : Nat) (h : n < szM 151) : dck 151 n = true := by
  have h : n < 35 := h
  exact (Nat.lt_or_ge n 20).elim (fun u => dk_at dk151_0 (Nat.zero_le n) u) (fun h20 => dk_at dk151_20 h20 h)
theorem dq152 (n : Nat) (h : n < szM 152) : dck 152 n = true := by
  have h : n < 28 := h
  exact (Nat.lt_or_ge n 20).elim (fun u => dk_at dk152_0 (Nat.zero_le n) u) (fun h20 => dk_at dk152_20 h20 h)
theorem dq153 (n : Nat) (h : n < szM 153) : dck 153 n = true := by
  have h : n < 37 := h
  exact (Nat.lt_or_ge n 20).elim (fun u => dk_at dk153_0 (Nat.zero_le n) u) (fun h20 => dk_at dk153_20 h20 h)
theorem dq154 (n : Nat) (h : n < szM 154) : dck 154 n = true := by
  have h : n < 30 := h
  exact (Nat.lt_or_ge n 20).elim (fun u => dk_at dk154_0 (Nat.zero_le n) u) (fun h20 => dk_at dk154_20 h20 h)
theorem dq155 (n : Nat) (h : n < szM 155) : dck 155 n = true := by
  have h : n < 38 := h
  exact (Nat.lt_or_ge n 20).elim (fun u => dk_at dk155_0 (Nat.zero_le n) u) (fun h20 => dk_at dk155_20 h20 h)
theorem dq156 (n : Nat) (h : n < szM 156) : dck 156 n = true := by
  have h : n < 9 := h
  exact dk_at dk156_0 (Nat.zero_le n) h
theorem dq157 (n : Nat) (h : n < szM 157) : dck 157 n = true := by
  have h : n < 12 := h
  exact dk_at dk157_0 (Nat.zero_le n) h
theorem dq158 (n : Nat) (h : n < szM 158) : dck 158 n = true := by
  have h : n < 51 := h
  exact (Nat.lt_or_ge n 20).elim (fun u => dk_at dk158_0 (Nat.zero_le n) u) (fun h20 => (Nat.lt_or_ge n 40).elim (fun u => dk_at dk158_20 h20 u) (fun h40 => dk_at dk158_40 h40 h))
theorem dq159 (n : Nat) (h : n < szM 159) : dck 159 n = true := by
  have h : n < 16 := h
  exact dk_at dk159_0 (Nat.zero_le n) h
theorem dq160 (n : Nat) (h : n < szM 160) : dck 160 n = true := by
  have h : n < 24 := h
  exact (Nat.lt_or_ge n 20).elim (fun u => dk_at dk160_0 (Nat.zero_le n) u) (fun h20 => dk_at dk160_20 h20 h)
theorem dq161 (n : Nat) (h : n < szM 161) : dck 161 n = true := by
  have h : n < 27 := h
  exact (Nat.lt_or_ge n 20).elim (fun u => dk_at dk161_0 (Nat.zero_le n) u) (fun h20 => dk_at dk161_20 h20 h)
theorem dq162 (n : Nat) (h : n < szM 162) : dck 162 n = true := by
  have h : n < 30 := h
  exact (Nat.lt_or_ge n 20).elim (fun u => dk_at dk162_0 (Nat.zero_le n) u) (fun h20 => dk_at dk162_20 h20 h)
theorem dq163 (n : Nat) (h : n < szM 163) : dck 163 n = true := by
  have h : n < 7 := h
  exact dk_at dk163_0 (Nat.zero_le n) h
theorem dq164 (n : Nat) (h : n < szM 164) : dck 164 n = true := by
  have h : n < 10 := h
  exact dk_at dk164_0 (Nat.zero_le n) h
theorem dq165 (n : Nat) (h : n < szM 165) : dck 165 n = true := by
  have h : n < 10 := h
  exact dk_at dk165_0 (Nat.zero_le n) h
theorem dq166 (n : Nat) (h : n < szM 166) : dck 166 n = true := by
  have h : n < 10 := h
  exact dk_at dk166_0 (Nat.zero_le n) h
theorem dq167 (n : Nat) (h : n < szM 167) : dck 167 n = true := by
  have h : n < 7 := h
  exact dk_at dk167_0 (Nat.zero_le n) h
theorem dq168 (n : Nat) (h : n < szM 168) : dck 168 n = true := by
  have h : n < 7 := h
  exact dk_at dk168_0 (Nat.zero_le n) h
theorem dq169 (n : Nat) (h : n < szM 169) : dck 169 n = true := by
  have h : n < 7 := h
  exact dk_at dk169_0 (Nat.zero_le n) h
theorem dq170 (n : Nat) (h : n < szM 170) : dck 170 n = true := by
  have h : n < 12 := h
  exact dk_at dk170_0 (Nat.zero_le n) h
theorem dq171 (n : Nat) (h : n < szM 171) : dck 171 n = true := by
  have h : n < 12 := h
  exact dk_at dk171_0 (Nat.zero_le n) h
theorem dq172 (n : Nat) (h : n < szM 172) : dck 172 n = true := by
  have h : n < 19 := h
  exact dk_at dk172_0 (Nat.zero_le n) h
theorem dq173 (n : Nat) (h : n < szM 173) : dck 173 n = true := by
  have h : n < 9 := h
  exact dk_at dk173_0 (Nat.zero_le n) h
theorem dq174 (n : Nat) (h : n < szM 174) : dck 174 n = true := by
  have h : n < 7 := h
  exact dk_at dk174_0 (Nat.zero_le n) h
theorem dq175 (n : Nat) (h : n < szM 175) : dck 175 n = true := by
  have h : n < 68 := h
  exact (Nat.lt_or_ge n 20).elim (fun u => dk_at dk175_0 (Nat.zero_le n) u) (fun h20 => (Nat.lt_or_ge n 40).elim (fun u => dk_at dk175_20 h20 u) (fun h40 => (Nat.lt_or_ge n 60).elim (fun u => dk_at dk175_40 h40 u) (fun h60 => dk_at dk175_60 h60 h)))
theorem dq176 (n : Nat) (h : n < szM 176) : dck 176 n = true := by
  have h : n < 3 := h
  exact dk_at dk176_0 (Nat.zero_le n) h
theorem dq177 (n : Nat) (h : n < szM 177) : dck 177 n = true := by
  have h : n < 10 := h
  exact dk_at dk177_0 (Nat.zero_le n) h
theorem dq178 (n : Nat) (h : n < szM 178) : dck 178 n = true := by
  have h : n < 5 := h
  exact dk_at dk178_0 (Nat.zero_le n) h
theorem dq179 (n : Nat) (h : n < szM 179) : dck 179 n = true := by
  have h : n < 5 := h
  exact dk_at dk179_0 (Nat.zero_le n) h
theorem dq180 (n : Nat) (h : n < szM 180) : dck 180 n = true := by
  have h : n < 10 := h
  exact dk_at dk180_0 (Nat.zero_le n) h
theorem dq181 (n : Nat) (h : n < szM 181) : dck 181 n = true := by
  have h : n < 10 := h
  exact dk_at dk181_0 (Nat.zero_le n) h
theorem dq182 (n : Nat) (h : n < szM 182) : dck 182 n = true := by
  have h : n < 9 := h
  exact dk_at dk182_0 (Nat.zero_le n) h
theorem dq183 (n : Nat) (h : n < szM 183) : dck 183 n = true := by
  have h : n < 11 := h
  exact dk_at dk183_0 (Nat.zero_le n) h
theorem dq184 (n : Nat) (h : n < szM 184) : dck 184 n = true := by
  have h : n < 11 := h
  exact dk_at dk184_0 (Nat.zero_le n) h
theorem dq185 (n : Nat) (h : n < szM 185) : dck 185 n = true := by
  have h : n < 19 := h
  exact dk_at dk185_0 (Nat.zero_le n) h
theorem dq186 (n : Nat) (h : n < szM 186) : dck 186 n = true := by
  have h : n < 65 := h
  exact (Nat.lt_or_ge n 20).elim (fun u => dk_at dk186_0 (Nat.zero_le n) u) (fun h20 => (Nat.lt_or_ge n 40).elim (fun u => dk_at dk186_20 h20 u) (fun h40 => (Nat.lt_or_ge n 60).elim (fun u => dk_at dk186_40 h40 u) (fun h60 => dk_at dk186_60 h60 h)))
theorem dq187 (n : Nat) (h : n < szM 187) : dck 187 n = true := by
  have h : n < 16 := h
  exact dk_at dk187_0 (Nat.zero_le n) h
theorem dq188 (n : Nat) (h : n < szM 188) : dck 188 n = true := by
  have h : n < 17 := h
  exact dk_at dk188_0 (Nat.zero_le n) h
theorem dq189 (n : Nat) (h : n < szM 189) : dck 189 n = true := by
  have h : n < 19 := h
  exact dk_at dk189_0 (Nat.zero_le n) h
theorem dq190 (n : Nat) (h : n < szM 190) : dck 190 n = true := by
  have h : n < 17 := h
  exact dk_at dk190_0 (Nat.zero_le n) h
theorem dq191 (n : Nat) (h : n < szM 191) : dck 191 n = true := by
  have h : n < 52 := h
  exact (Nat.lt_or_ge n 20).elim (fun u => dk_at dk191_0 (Nat.zero_le n) u) (fun h20 => (Nat.lt_or_ge n 40).elim (fun u => dk_at dk191_20 h20 u) (fun h40 => dk_at dk191_40 h40 h))
theorem dq192 (n : Nat) (h : n < szM 192) : dck 192 n = true := by
  have h : n < 8 := h
  exact dk_at dk192_0 (Nat.zero_le n) h
theorem dq193 (n : Nat) (h : n < szM 193) : dck 193 n = true := by
  have h : n < 71 := h
  exact (Nat.lt_or_ge n 20).elim (fun u => dk_at dk193_0 (Nat.zero_le n) u) (fun h20 => (Nat.lt_or_ge n 40).elim (fun u => dk_at dk193_20 h20 u) (fun h40 => (Nat.lt_or_ge n 60).elim (fun u => dk_at dk193_40 h40 u) (fun h60 => dk_at dk193_60 h60 h)))
theorem dq194 (n : Nat) (h : n < szM 194) : dck 194 n = true := by
  have h : n < 37 := h
  exact (Nat.lt_or_ge n 20).elim (fun u => dk_at dk194_0 (Nat.zero_le n) u) (fun h20 => dk_at dk194_20 h20 h)
theorem dq195 (n : Nat) (h : n < szM 195) : dck 195 n = true := by
  have h : n < 272 := h
  exact (Nat.lt_or_ge n 20).elim (fun u => dk_at dk195_0 (Nat.zero_le n) u) (fun h20 => (Nat.lt_or_ge n 40).elim (fun u => dk_at dk195_20 h20 u) (fun h40 => (Nat.lt_or_ge n 60).elim (fun u => dk_at dk195_40 h40 u) (fun h60 => (Nat.lt_or_ge n 80).elim (fun u => dk_at dk195_60 h60 u) (fun h80 => (Nat.lt_or_ge n 100).elim (fun u => dk_at dk195_80 h80 u) (fun h100 => (Nat.lt_or_ge n 120).elim (fun u => dk_at dk195_100 h100 u) (fun h120 => (Nat.lt_or_ge n 140).elim (fun u => dk_at dk195_120 h120 u) (fun h140 => (Nat.lt_or_ge n 160).elim (fun u => dk_at dk195_140 h140 u) (fun h160 => (Nat.lt_or_ge n 180).elim (fun u => dk_at dk195_160 h160 u) (fun h180 => (Nat.lt_or_ge n 200).elim (fun u => dk_at dk195_180 h180 u) (fun h200 => (Nat.lt_or_ge n 220).elim (fun u => dk_at dk195_200 h200 u) (fun h220 => (Nat.lt_or_ge n 240).elim (fun u => dk_at dk195_220 h220 u) (fun h240 => (Nat.lt_or_ge n 260).elim (fun u => dk_at dk195_240 h240 u) (fun h260 => dk_at dk195_260 h260 h)))))))))))))
theorem dq196 (n : Nat) (h : n < szM 196) : dck 196 n = true := by
  have h : n < 80 := h
  exact (Nat.lt_or_ge n 20).elim (fun u => dk_at dk196_0 (Nat.zero_le n) u) (fun h20 => (Nat.lt_or_ge n 40).elim (fun u => dk_at dk196_20 h20 u) (fun h40 => (Nat.lt_or_ge n 60).elim (fun u => dk_at dk196_40 h40 u) (fun h60 => dk_at dk196_60 h60 h)))
theorem dq197 (n : Nat) (h : n < szM 197) : dck 197 n = true := by
  have h : n < 81 := h
  exact (Nat.lt_or_ge n 20).elim (fun u => dk_at dk197_0 (Nat.zero_le n) u) (fun h20 => (Nat.lt_or_ge n 40).elim (fun u => dk_at dk197_20 h20 u) (fun h40 => (Nat.lt_or_ge n 60).elim (fun u => dk_at dk197_40 h40 u) (fun h60 => (Nat.lt_or_ge n 80).elim (fun u => dk_at dk197_60 h60 u) (fun h80 => dk_at dk197_80 h80 h))))
theorem dq198 (n : Nat) (h : n < szM 198) : dck 198 n = true := by
  have h : n < 32 := h
  exact (Nat.lt_or_ge n 20).elim (fun u => dk_at dk198_0 (Nat.zero_le n) u) (fun h20 => dk_at dk198_20 h20 h)
theorem dq199 (n : Nat) (h : n < szM 199) : dck 199 n = true := by
  have h : n < 43 := h
  exact (Nat.lt_or_ge n 20).elim (fun u => dk_at dk199_0 (Nat.zero_le n) u) (fun h20 => (Nat.lt_or_ge n 40).elim (fun u => dk_at dk199_20 h20 u) (fun h40 => dk_at dk199_40 h40 h))
theorem dq200 (n : Nat) (h : n < szM 200) : dck 200 n = true := by
  have h : n < 25 := h
  exact (Nat.lt_or_ge n 20).elim (fun u => dk_at dk200_0 (Nat.zero_le n) u) (fun h20 => dk_at dk200_20 h20 h)
theorem dq201 (n : Nat) (h : n < szM 201) : dck 201 n = true := by
  have h : n < 71 := h
  exact (Nat.lt_or_ge n 20).elim (fun u => dk_at dk201_0 (Nat.zero_le n) u) (fun h20 => (Nat.lt_or_ge n 40).elim (fun u => dk_at dk201_20 h20 u) (fun h40 => (Nat.lt_or_ge n 60).elim (fun u => dk_at dk201_40 h40 u) (fun h60 => dk_at dk201_60 h60 h)))
theorem dq202 (n : Nat) (h : n < szM 202) : dck 202 n = true := by
  have h : n < 86 := h
  exact (Nat.lt_or_ge n 20).elim (fun u => dk_at dk202_0 (Nat.zero_le n) u) (fun h20 => (Nat.lt_or_ge n 40).elim (fun u => dk_at dk202_20 h20 u) (fun h40 => (Nat.lt_or_ge n 60).elim (fun u => dk_at dk202_40 h40 u) (fun h60 => (Nat.lt_or_ge n 80).elim (fun u => dk_at dk202_60 h60 u) (fun h80 => dk_at dk202_80 h80 h))))
theorem dq203 (n : Nat) (h : n < szM 203) : dck 203 n = true := by
  have h : n < 25 := h
  exact (Nat.lt_or_ge n 20).elim (fun u => dk_at dk203_0 (Nat.zero_le n) u) (fun h20 => dk_at dk203_20 h20 h)
theorem dq204 (n : Nat) (h : n < szM 204) : dck 204 n = true := by
  have h : n < 25 := h
  exact (Nat.lt_or_ge n 20).elim (fun u => dk_at dk204_0 (Nat.zero_le n) u) (fun h20 => dk_at dk204_20 h20 h)
theorem dq205 (n : Nat) (h : n < szM 205) : dck 205 n = true := by
  have h : n < 111 := h
  exact (Nat.lt_or_ge n 20).elim (fun u => dk_at dk205_0 (Nat.zero_le n) u) (fun h20 => (Nat.lt_or_ge n 40).elim (fun u => dk_at dk205_20 h20 u) (fun h40 => (Nat.lt_or_ge n 60).elim (fun u => dk_at dk205_40 h40 u) (fun h60 => (Nat.lt_or_ge n 80).elim (fun u => dk_at dk205_60 h60 u) (fun h80 => (Nat.lt_or_ge n 100).elim (fun u => dk_at dk205_80 h80 u) (fun h100 => dk_at dk205_100 h100 h)))))
theorem dq206 (n : Nat) (h : n < szM 206) : dck 206 n = true := by
  have h : n < 89 := h
  exact (Nat.lt_or_ge n 20).elim (fun u => dk_at dk206_0 (Nat.zero_le n) u) (fun h20 => (Nat.lt_or_ge n 40).elim (fun u => dk_at dk206_20 h20 u) (fun h40 => (Nat.lt_or_ge n 60).elim (fun u => dk_at dk206_40 h40 u) (fun h60 => (Nat.lt_or_ge n 80).elim (fun u => dk_at dk206_60 h60 u) (fun h80 => dk_at dk206_80 h80 h))))
theorem dq207 (n : Nat) (h : n < szM 207) : dck 207 n = true := by
  have h : n < 6 := h
  exact dk_at dk207_0 (Nat.zero_le n) h
theorem dq208 (n : Nat) (h : n < szM 208) : dck 208 n = true := by
  have h : n < 89 := h
  exact (Nat.lt_or_ge n 20).elim (fun u => dk_at dk208_0 (Nat.zero_le n) u) (fun h20 => (Nat.lt_or_ge n 40).elim (fun u => dk_at dk208_20 h20 u) (fun h40 => (Nat.lt_or_ge n 60).elim (fun u => dk_at dk208_40 h40 u) (fun h60 => (Nat.lt_or_ge n 80).elim (fun u => dk_at dk208_60 h60 u) (fun h80 => dk_at dk208_80 h80 h))))
theorem dq209 (n : Nat) (h : n < szM 209) : dck 209 n = true := by
  have h : n < 22 := h
  exact (Nat.lt_or_ge n 20).elim (fun u => dk_at dk209_0 (Nat.zero_le n) u) (fun h20 => dk_at dk209_20 h20 h)
theorem dq210 (n : Nat) (h : n < szM 210) : dck 210 n = true := by
  have h : n < 108 := h
  exact (Nat.lt_or_ge n 20).elim (fun u => dk_at dk210_0 (Nat.zero_le n) u) (fun h20 => (Nat.lt_or_ge n 40).elim (fun u => dk_at dk210_20 h20 u) (fun h40 => (Nat.lt_or_ge n 60).elim (fun u => dk_at dk210_40 h40 u) (fun h60 => (Nat.lt_or_ge n 80).elim (fun u => dk_at dk210_60 h60 u) (fun h80 => (Nat.lt_or_ge n 100).elim (fun u => dk_at dk210_80 h80 u) (fun h100 => dk_at dk210_100 h100 h)))))
theorem dq211 (n : Nat) (h : n < szM 211) : dck 211 n = true := by
  have h : n < 20 := h
  exact dk_at dk211_0 (Nat.zero_le n) h
theorem dq212 (n : Nat) (h : n < szM 212) : dck 212 n = true := by
  have h : n < 19 := h
  exact dk_at dk212_0 (Nat.zero_le n) h
theorem dq213 (n : Nat) (h : n < szM 213) : dck 213 n = true := by
  have h : n < 8 := h
  exact dk_at dk213_0 (Nat.zero_le n) h
theorem dq214 (n : Nat) (h : n < szM 214) : dck 214 n = true := by
  have h : n < 36 := h
  exact (Nat.lt_or_ge n 20).elim (fun u => dk_at dk214_0 (Nat.zero_le n) u) (fun h20 => dk_at dk214_20 h20 h)
theorem dq215 (n : Nat) (h : n < szM 215) : dck 215 n = true := by
  have h : n < 17 := h
  exact dk_at dk215_0 (Nat.zero_le n) h
theorem dq216 (n : Nat) (h : n < szM 216) : dck 216 n = true := by
  have h : n < 14 := h
  exact dk_at dk216_0 (Nat.zero_le n) h
theorem dq217 (n : Nat) (h : n < szM 217) : dck 217 n = true := by
  have h : n < 18 := h
  exact dk_at dk217_0 (Nat.zero_le n) h
theorem dq218 (n : Nat) (h : n < szM 218) : dck 218 n = true := by
  have h : n < 123 := h
  exact (Nat.lt_or_ge n 20).elim (fun u => dk_at dk218_0 (Nat.zero_le n) u) (fun h20 => (Nat.lt_or_ge n 40).elim (fun u => dk_at dk218_20 h20 u) (fun h40 => (Nat.lt_or_ge n 60).elim (fun u => dk_at dk218_40 h40 u) (fun h60 => (Nat.lt_or_ge n 80).elim (fun u => dk_at dk218_60 h60 u) (fun h80 => (Nat.lt_or_ge n 100).elim (fun u => dk_at dk218_80 h80 u) (fun h100 => (Nat.lt_or_ge n 120).elim (fun u => dk_at dk218_100 h100 u) (fun h120 => dk_at dk218_120 h120 h))))))
theorem dq219 (n : Nat) (h : n < szM 219) : dck 219 n = true := by
  have h : n < 30 := h
  exact (Nat.lt_or_ge n 20).elim (fun u => dk_at dk219_0 (Nat.zero_le n) u) (fun h20 => dk_at dk219_20 h20 h)
theorem dq220 (n : Nat) (h : n < szM 220) : dck 220 n = true := by
  have h : n < 30 := h
  exact (Nat.lt_or_ge n 20).elim (fun u => dk_at dk220_0 (Nat.zero_le n) u) (fun h20 => dk_at dk220_20 h20 h)
theorem dq221 (n : Nat) (h : n < szM 221) : dck 221 n = true := by
  have h : n < 33 := h
  exact (Nat.lt_or_ge n 20).elim (fun u => dk_at dk221_0 (Nat.zero_le n) u) (fun h20 => dk_at dk221_20 h20 h)
theorem dq222 (n : Nat) (h : n < szM 222) : dck 222 n = true := by
  have h : n < 30 := h
  exact (Nat.lt_or_ge n 20).elim (fun u => dk_at dk222_0 (Nat.zero_le n) u) (fun h20 => dk_at dk222_20 h20 h)
theorem dq223 (n : Nat) (h : n < szM 223) : dck 223 n = true := by
  have h : n < 25 := h
  exact (Nat.lt_or_ge n 20).elim (fun u => dk_at dk223_0 (Nat.zero_le n) u) (fun h20 => dk_at dk223_20 h20 h)
theorem dq224 (n : Nat) (h : n < szM 224) : dck 224 n = true := by
  have h : n < 26 := h
  exact (Nat.lt_or_ge n 20).elim (fun u => dk_at dk224_0 (Nat.zero_le n) u) (fun h20 => dk_at dk224_20 h20 h)
theorem dq225 (n : Nat) (h : n < szM 225) : dck 225 n = true := by
  have h : n < 71 := h
  exact (Nat.lt_or_ge n 20).elim (fun u => dk_at dk225_0 (Nat.zero_le n) u) (fun h20 => (Nat.lt_or_ge n 40).elim (fun u => dk_at dk225_20 h20 u) (fun h40 => (Nat.lt_or_ge n 60).elim (fun u => dk_at dk225_40 h40 u) (fun h60 => dk_at dk225_60 h60 h)))
theorem dq226 (n : Nat) (h : n < szM 226) : dck 226 n = true := by
  have h : n < 43 := h
  exact (Nat.lt_or_ge n 20).elim (fun u => dk_at dk226_0 (Nat.zero_le n) u) (fun h20 => (Nat.lt_or_ge n 40).elim (fun u => dk_at dk226_20 h20 u) (fun h40 => dk_at dk226_40 h40 h))
theorem dq227 (n : Nat) (h : n < szM 227) : dck 227 n = true := by
  have h : n < 27 := h
  exact (Nat.lt_or_ge n 20).elim (fun u => dk_at dk227_0 (Nat.zero_le n) u) (fun h20 => dk_at dk227_20 h20 h)
theorem dq228 (n : Nat) (h : n < szM 228) : dck 228 n = true := by
  have h : n < 27 := h
  exact (Nat.lt_or_ge n 20).elim (fun u => dk_at dk228_0 (Nat.zero_le n) u) (fun h20 => dk_at dk228_20 h20 h)
theorem dq229 (n : Nat) (h : n < szM 229) : dck 229 n = true := by
  have h : n < 113 := h
  exact (Nat.lt_or_ge n 20).elim (fun u => dk_at dk229_0 (Nat.zero_le n) u) (fun h20 => (Nat.lt_or_ge n 40).elim (fun u => dk_at dk229_20 h20 u) (fun h40 => (Nat.lt_or_ge n 60).elim (fun u => dk_at dk229_40 h40 u) (fun h60 => (Nat.lt_or_ge n 80).elim (fun u => dk_at dk229_60 h60 u) (fun h80 => (Nat.lt_or_ge n 100).elim (fun u => dk_at dk229_80 h80 u) (fun h100 => dk_at dk229_100 h100 h)))))
theorem dq230 (n : Nat) (h : n < szM 230) : dck 230 n = true := by
  have h : n < 35 := h
  exact (Nat.lt_or_ge n 20).elim (fun u => dk_at dk230_0 (Nat.zero_le n) u) (fun h20 => dk_at dk230_20 h20 h)
theorem dq231 (n : Nat) (h : n < szM 231) : dck 231 n = true := by
  have h : n < 93 := h
  exact (Nat.lt_or_ge n 20).elim (fun u => dk_at dk231_0 (Nat.zero_le n) u) (fun h20 => (Nat.lt_or_ge n 40).elim (fun u => dk_at dk231_20 h20 u) (fun h40 => (Nat.lt_or_ge n 60).elim (fun u => dk_at dk231_40 h40 u) (fun h60 => (Nat.lt_or_ge n 80).elim (fun u => dk_at dk231_60 h60 u) (fun h80 => dk_at dk231_80 h80 h))))
theorem dq232 (n : Nat) (h : n < szM 232) : dck 232 n = true := by
  have h : n < 65 := h
  exact (Nat.lt_or_ge n 20).elim (fun u => dk_at dk232_0 (Nat.zero_le n) u) (fun h20 => (Nat.lt_or_ge n 40).elim (fun u => dk_at dk232_20 h20 u) (fun h40 => (Nat.lt_or_ge n 60).elim (fun u => dk_at dk232_40 h40 u) (fun h60 => dk_at dk232_60 h60 h)))
theorem dq233 (n : Nat) (h : n < szM 233) : dck 233 n = true := by
  have h : n < 76 := h
  exact (Nat.lt_or_ge n 20).elim (fun u => dk_at dk233_0 (Nat.zero_le n) u) (fun h20 => (Nat.lt_or_ge n 40).elim (fun u => dk_at dk233_20 h20 u) (fun h40 => (Nat.lt_or_ge n 60).elim (fun u => dk_at dk233_40 h40 u) (fun h60 => dk_at dk233_60 h60 h)))
theorem dq234 (n : Nat) (h : n < szM 234) : dck 234 n = true := by
  have h : n < 58 := h
  exact (Nat.lt_or_ge n 20).elim (fun u => dk_at dk234_0 (Nat.zero_le n) u) (fun h20 => (Nat.lt_or_ge n 40).elim (fun u => dk_at dk234_20 h20 u) (fun h40 => dk_at dk234_40 h40 h))
theorem dq235 (n : Nat) (h : n < szM 235) : dck 235 n = true := by
  have h : n < 83 := h
  exact (Nat.lt_or_ge n 20).elim (fun u => dk_at dk235_0 (Nat.zero_le n) u) (fun h20 => (Nat.lt_or_ge n 40).elim (fun u => dk_at dk235_20 h20 u) (fun h40 => (Nat.lt_or_ge n 60).elim (fun u => dk_at dk235_40 h40 u) (fun h60 => (Nat.lt_or_ge n 80).elim (fun u => dk_at dk235_60 h60 u) (fun h80 => dk_at dk235_80 h80 h))))
theorem dq236 (n : Nat) (h : n < szM 236) : dck 236 n = true := by
  have h : n < 23 := h
  exact (Nat.lt_or_ge n 20).elim (fun u => dk_at dk236_0 (Nat.zero_le n) u) (fun h20 => dk_at dk236_20 h20 h)
theorem dq237 (n : Nat) (h : n < szM 237) : dck 237 n = true := by
  have h : n < 70 := h
  exact (Nat.lt_or_ge n 20).elim (fun u => dk_at dk237_0 (Nat.zero_le n) u) (fun h20 => (Nat.lt_or_ge n 40).elim (fun u => dk_at dk237_20 h20 u) (fun h40 => (Nat.lt_or_ge n 60).elim (fun u => dk_at dk237_40 h40 u) (fun h60 => dk_at dk237_60 h60 h)))
theorem dq238 (n : Nat) (h : n < szM 238) : dck 238 n = true := by
  have h : n < 29 := h
  exact (Nat.lt_or_ge n 20).elim (fun u => dk_at dk238_0 (Nat.zero_le n) u) (fun h20 => dk_at dk238_20 h20 h)
theorem dq239 (n : Nat) (h : n < szM 239) : dck 239 n = true := by
  have h : n < 30 := h
  exact (Nat.lt_or_ge n 20).elim (fun u => dk_at dk239_0 (Nat.zero_le n) u) (fun h20 => dk_at dk239_20 h20 h)
theorem dq240 (n : Nat) (h : n < szM 240) : dck 240 n = true := by
  have h : n < 64 := h
  exact (Nat.lt_or_ge n 20).elim (fun u => dk_at dk240_0 (Nat.zero_le n) u) (fun h20 => (Nat.lt_or_ge n 40).elim (fun u => dk_at dk240_20 h20 u) (fun h40 => (Nat.lt_or_ge n 60).elim (fun u => dk_at dk240_40 h40 u) (fun h60 => dk_at dk240_60 h60 h)))
theorem dq241 (n : Nat) (h : n < szM 241) : dck 241 n = true := by
  have h : n < 74 := h
  exact (Nat.lt_or_ge n 20).elim (fun u => dk_at dk241_0 (Nat.zero_le n) u) (fun h20 => (Nat.lt_or_ge n 40).elim (fun u => dk_at dk241_20 h20 u) (fun h40 => (Nat.lt_or_ge n 60).elim (fun u => dk_at dk241_40 h40 u) (fun h60 => dk_at dk241_60 h60 h)))
theorem dq242 (n : Nat) (h : n < szM 242) : dck 242 n = true := by
  have h : n < 15 := h
  exact dk_at dk242_0 (Nat.zero_le n) h
theorem dq243 (n : Nat) (h : n < szM 243) : dck 243 n = true := by
  have h : n < 48 := h
  exact (Nat.lt_or_ge n 20).elim (fun u => dk_at dk243_0 (Nat.zero_le n) u) (fun h20 => (Nat.lt_or_ge n 40).elim (fun u => dk_at dk243_20 h20 u) (fun h40 => dk_at dk243_40 h40 h))
theorem dq244 (n : Nat) (h : n < szM 244) : dck 244 n = true := by
  have h : n < 98 := h
  exact (Nat.lt_or_ge n 20).elim (fun u => dk_at dk244_0 (Nat.zero_le n) u) (fun h20 => (Nat.lt_or_ge n 40).elim (fun u => dk_at dk244_20 h20 u) (fun h40 => (Nat.lt_or_ge n 60).elim (fun u => dk_at dk244_40 h40 u) (fun h60 => (Nat.lt_or_ge n 80).elim (fun u => dk_at dk244_60 h60 u) (fun h80 => dk_at dk244_80 h80 h))))
theorem dq245 (n : Nat) (h : n < szM 245) : dck 245 n = true := by
  have h : n < 79 := h
  exact (Nat.lt_or_ge n 20).elim (fun u => dk_at dk245_0 (Nat.zero_le n) u) (fun h20 => (Nat.lt_or_ge n 40).elim (fun u => dk_at dk245_20 h20 u) (fun h40 => (Nat.lt_or_ge n 60).elim (fun u => dk_at dk245_40 h40 u) (fun h60 => dk_at dk245_60 h60 h)))
theorem dq246 (n : Nat) (h : n < szM 246) : dck 246 n = true := by
  have h : n < 16 := h
  exact dk_at dk246_0 (Nat.zero_le n) h
theorem dq247 (n : Nat) (h : n < szM 247) : dck 247 n = true := by
  have h : n < 104 := h
  exact (Nat.lt_or_ge n 20).elim (fun u => dk_at dk247_0 (Nat.zero_le n) u) (fun h20 => (Nat.lt_or_ge n 40).elim (fun u => dk_at dk247_20 h20 u) (fun h40 => (Nat.lt_or_ge n 60).elim (fun u => dk_at dk247_40 h40 u) (fun h60 => (Nat.lt_or_ge n 80).elim (fun u => dk_at dk247_60 h60 u) (fun h80 => (Nat.lt_or_ge n 100).elim (fun u => dk_at dk247_80 h80 u) (fun h100 => dk_at dk247_100 h100 h)))))
theorem dq248 (n : Nat) (h : n < szM 248) : dck 248 n = true := by
  have h : n < 58 := h
  exact (Nat.lt_or_ge n 20).elim (fun u => dk_at dk248_0 (Nat.zero_le n) u) (fun h20 => (Nat.lt_or_ge n 40).elim (fun u => dk_at dk248_20 h20 u) (fun h40 => dk_at dk248_40 h40 h))
theorem dq249 (n : Nat) (h : n < szM 249) : dck 249 n = true := by
  have h : n < 25 := h
  exact (Nat.lt_or_ge n 20).elim (fun u => dk_at dk249_0 (Nat.zero_le n) u) (fun h20 => dk_at dk249_20 h20 h)
theorem dq250 (n : Nat) (h : n < szM 250) : dck 250 n = true := by
  have h : n < 44 := h
  exact (Nat.lt_or_ge n 20).elim (fun u => dk_at dk250_0 (Nat.zero_le n) u) (fun h20 => (Nat.lt_or_ge n 40).elim (fun u => dk_at dk250_20 h20 u) (fun h40 => dk_at dk250_40 h40 h))
theorem dq251 (n : Nat) (h : n < szM 251) : dck 251 n = true := by
  have h : n < 60 := h
  exact (Nat.lt_or_ge n 20).elim (fun u => dk_at dk251_0 (Nat.zero_le n) u) (fun h20 => (Nat.lt_or_ge n 40).elim (fun u => dk_at dk251_20 h20 u) (fun h40 => dk_at dk251_40 h40 h))
theorem dq252 (n : Nat) (h : n < szM 252) : dck 252 n = true := by
  have h : n < 54 := h
  exact (Nat.lt_or_ge n 20).elim (fun u => dk_at dk252_0 (Nat.zero_le n) u) (fun h20 => (Nat.lt_or_ge n 40).elim (fun u => dk_at dk252_20 h20 u) (fun h40 => dk_at dk252_40 h40 h))
theorem dq253 (n : Nat) (h : n < szM 253) : dck 253 n = true := by
  have h : n < 45 := h
  exact (Nat.lt_or_ge n 20).elim (fun u => dk_at dk253_0 (Nat.zero_le n) u) (fun h20 => (Nat.lt_or_ge n 40).elim (fun u => dk_at dk253_20 h20 u) (fun h40 => dk_at dk253_40 h40 h))
theorem dq254 (n : Nat) (h : n < szM 254) : dck 254 n = true := by
  have h : n < 22 := h
  exact (Nat.lt_or_ge n 20).elim (fun u => dk_at dk254_0 (Nat.zero_le n) u) (fun h20 => dk_at dk254_20 h20 h)
theorem dq255 (n : Nat) (h : n < szM 255) : dck 255 n = true := by
  have h : n < 25 := h
  exact (Nat.lt_or_ge n 20).elim (fun u => dk_at dk255_0 (Nat.zero_le n) u) (fun h20 => dk_at dk255_20 h20 h)
theorem dq256 (n : Nat) (h : n < szM 256) : dck 256 n = true := by
  have h : n < 106 := h
  exact (Nat.lt_or_ge n 20).elim (fun u => dk_at dk256_0 (Nat.zero_le n) u) (fun h20 => (Nat.lt_or_ge n 40).elim (fun u => dk_at dk256_20 h20 u) (fun h40 => (Nat.lt_or_ge n 60).elim (fun u => dk_at dk256_40 h40 u) (fun h60 => (Nat.lt_or_ge n 80).elim (fun u => dk_at dk256_60 h60 u) (fun h80 => (Nat.lt_or_ge n 100).elim (fun u => dk_at dk256_80 h80 u) (fun h100 => dk_at dk256_100 h100 h)))))
theorem dq257 (n : Nat) (h : n < szM 257) : dck 257 n = true := by
  have h : n < 46 := h
  exact (Nat.lt_or_ge n 20).elim (fun u => dk_at dk257_0 (Nat.zero_le n) u) (fun h20 => (Nat.lt_or_ge n 40).elim (fun u => dk_at dk257_20 h20 u) (fun h40 => dk_at dk257_40 h40 h))
theorem dq258 (n : Nat) (h : n < szM 258) : dck 258 n = true := by
  have h : n < 50 := h
  exact (Nat.lt_or_ge n 20).elim (fun u => dk_at dk258_0 (Nat.zero_le n) u) (fun h20 => (Nat.lt_or_ge n 40).elim (fun u => dk_at dk258_20 h20 u) (fun h40 => dk_at dk258_40 h40 h))
theorem dq259 (n : Nat) (h : n < szM 259) : dck 259 n = true := by
  have h : n < 54 := h
  exact (Nat.lt_or_ge n 20).elim (fun u => dk_at dk259_0 (Nat.zero_le n) u) (fun h20 => (Nat.lt_or_ge n 40).elim (fun u => dk_at dk259_20 h20 u) (fun h40 => dk_at dk259_40 h40 h))
theorem dq260 (n : Nat) (h : n < szM 260) : dck 260 n = true := by
  have h : n < 11 := h
  exact dk_at dk260_0 (Nat.zero_le n) h
theorem dq261 (n : Nat) (h : n < szM 261) : dck 261 n = true := by
  have h : n < 72 := h
  exact (Nat.lt_or_ge n 20).elim (fun u => dk_at dk261_0 (Nat.zero_le n) u) (fun h20 => (Nat.lt_or_ge n 40).elim (fun u => dk_at dk261_20 h20 u) (fun h40 => (Nat.lt_or_ge n 60).elim (fun u => dk_at dk261_40 h40 u) (fun h60 => dk_at dk261_60 h60 h)))
theorem dq262 (n : Nat) (h : n < szM 262) : dck 262 n = true := by
  have h : n < 95 := h
  exact (Nat.lt_or_ge n 20).elim (fun u => dk_at dk262_0 (Nat.zero_le n) u) (fun h20 => (Nat.lt_or_ge n 40).elim (fun u => dk_at dk262_20 h20 u) (fun h40 => (Nat.lt_or_ge n 60).elim (fun u => dk_at dk262_40 h40 u) (fun h60 => (Nat.lt_or_ge n 80).elim (fun u => dk_at dk262_60 h60 u) (fun h80 => dk_at dk262_80 h80 h))))
theorem dq263 (n : Nat) (h : n < szM 263) : dck 263 n = true := by
  have h : n < 53 := h
  exact (Nat.lt_or_ge n 20).elim (fun u => dk_at dk263_0 (Nat.zero_le n) u) (fun h20 => (Nat.lt_or_ge n 40).elim (fun u => dk_at dk263_20 h20 u) (fun h40 => dk_at dk263_40 h40 h))
theorem dq264 (n : Nat) (h : n < szM 264) : dck 264 n = true := by
  have h : n < 46 := h
  exact (Nat.lt_or_ge n 20).elim (fun u => dk_at dk264_0 (Nat.zero_le n) u) (fun h20 => (Nat.lt_or_ge n 40).elim (fun u => dk_at dk264_20 h20 u) (fun h40 => dk_at dk264_40 h40 h))
theorem dq265 (n : Nat) (h : n < szM 265) : dck 265 n = true := by
  have h : n < 22 := h
  exact (Nat.lt_or_ge n 20).elim (fun u => dk_at dk265_0 (Nat.zero_le n) u) (fun h20 => dk_at dk265_20 h20 h)
theorem dq266 (n : Nat) (h : n < szM 266) : dck 266 n = true := by
  have h : n < 25 := h
  exact (Nat.lt_or_ge n 20).elim (fun u => dk_at dk266_0 (Nat.zero_le n) u) (fun h20 => dk_at dk266_20 h20 h)
theorem dq267 (n : Nat) (h : n < szM 267) : dck 267 n = true := by
  have h : n < 82 := h
  exact (Nat.lt_or_ge n 20).elim (fun u => dk_at dk267_0 (Nat.zero_le n) u) (fun h20 => (Nat.lt_or_ge n 40).elim (fun u => dk_at dk267_20 h20 u) (fun h40 => (Nat.lt_or_ge n 60).elim (fun u => dk_at dk267_40 h40 u) (fun h60 => (Nat.lt_or_ge n 80).elim (fun u => dk_at dk267_60 h60 u) (fun h80 => dk_at dk267_80 h80 h))))
theorem dq268 (n : Nat) (h : n < szM 268) : dck 268 n = true := by
  have h : n < 15 := h
  exact dk_at dk268_0 (Nat.zero_le n) h
theorem dq269 (n : Nat) (h : n < szM 269) : dck 269 n = true := by
  have h : n < 15 := h
  exact dk_at dk269_0 (Nat.zero_le n) h
theorem dq270 (n : Nat) (h : n < szM 270) : dck 270 n = true := by
  have h : n < 17 := h
  exact dk_at dk270_0 (Nat.zero_le n) h
theorem dq271 (n : Nat) (h : n < szM 271) : dck 271 n = true := by
  have h : n < 13 := h
  exact dk_at dk271_0 (Nat.zero_le n) h
theorem dq272 (n : Nat) (h : n < szM 272) : dck 272 n = true := by
  have h : n < 17 := h
  exact dk_at dk272_0 (Nat.zero_le n) h
theorem dq273 (n : Nat) (h : n < szM 273) : dck 273 n = true := by
  have h : n < 18 := h
  exact dk_at dk273_0 (Nat.zero_le n) h
theorem dq274 (n : Nat) (h : n < szM 274) : dck 274 n = true := by
  have h : n < 18 := h
  exact dk_at dk274_0 (Nat.zero_le n) h
theorem dq275 (n : Nat) (h : n < szM 275) : dck 275 n = true := by
  have h : n < 14 := h
  exact dk_at dk275_0 (Nat.zero_le n) h
theorem dq276 (n : Nat) (h : n < szM 276) : dck 276 n = true := by
  have h : n < 17 := h
  exact dk_at dk276_0 (Nat.zero_le n) h
theorem dq277 (n : Nat) (h : n < szM 277) : dck 277 n = true := by
  have h : n < 15 := h
  exact dk_at dk277_0 (Nat.zero_le n) h
theorem dq278 (n : Nat) (h : n < szM 278) : dck 278 n = true := by
  have h : n < 22 := h
  exact (Nat.lt_or_ge n 20).elim (fun u => dk_at dk278_0 (Nat.zero_le n) u) (fun h20 => dk_at dk278_20 h20 h)
theorem dq279 (n : Nat) (h : n < szM 279) : dck 279 n = true := by
  have h : n < 13 := h
  exact dk_at dk279_0 (Nat.zero_le n) h
theorem dq280 (n : Nat) (h : n < szM 280) : dck 280 n = true := by
  have h : n < 21 := h
  exact (Nat.lt_or_ge n 20).elim (fun u => dk_at dk280_0 (Nat.zero_le n) u) (fun h20 => dk_at dk280_20 h20 h)
theorem dq281 (n : Nat) (h : n < szM 281) : dck 281 n = true := by
  have h : n < 13 := h
  exact dk_at dk281_0 (Nat.zero_le n) h
theorem dq282 (n : Nat) (h : n < szM 282) : dck 282 n = true := by
  have h : n < 14 := h
  exact dk_at dk282_0 (Nat.zero_le n) h
theorem dq283 (n : Nat) (h : n < szM 283) : dck 283 n = true := by
  have h : n < 20 := h
  exact dk_at dk283_0 (Nat.zero_le n) h
theorem dq284 (n : Nat) (h : n < szM 284) : dck 284 n = true := by
  have h : n < 17 := h
  exact dk_at dk284_0 (Nat.zero_le n) h
theorem dq285 (n : Nat) (h : n < szM 285) : dck 285 n = true := by
  have h : n < 14 := h
  exact dk_at dk285_0 (Nat.zero_le n) h
theorem dq286 (n : Nat) (h : n < szM 286) : dck 286 n = true := by
  have h : n < 14 := h
  exact dk_at dk286_0 (Nat.zero_le n) h
theorem dq287 (n : Nat) (h : n < szM 287) : dck 287 n = true := by
  have h : n < 15 := h
  exact dk_at dk287_0 (Nat.zero_le n) h
theorem dq288 (n : Nat) (h : n < szM 288) : dck 288 n = true := by
  have h : n < 17 := h
  exact dk_at dk288_0 (Nat.zero_le n) h
theorem dq289 (n : Nat) (h : n < szM 289) : dck 289 n = true := by
  have h : n < 17 := h
  exact dk_at dk289_0 (Nat.zero_le n) h
theorem dq290 (n : Nat) (h : n < szM 290) : dck 290 n = true := by
  have h : n < 20 := h
  exact dk_at dk290_0 (Nat.zero_le n) h
theorem dq291 (n : Nat) (h : n < szM 291) : dck 291 n = true := by
  have h : n < 19 := h
  exact dk_at dk291_0 (Nat.zero_le n) h
theorem dq292 (n : Nat) (h : n < szM 292) : dck 292 n = true := by
  have h : n < 19 := h
  exact dk_at dk292_0 (Nat.zero_le n) h
theorem dq293 (n : Nat) (h : n < szM 293) : dck 293 n = true := by
  have h : n < 14 := h
  exact dk_at dk293_0 (Nat.zero_le n) h
theorem dq294 (n : Nat) (h : n < szM 294) : dck 294 n = true := by
  have h : n < 14 := h
  exact dk_at dk294_0 (Nat.zero_le n) h
theorem dq295 (n : Nat) (h : n < szM 295) : dck 295 n = true := by
  have h : n < 17 := h
  exact dk_at dk295_0 (Nat.zero_le n) h
theorem dq296 (n : Nat) (h : n < szM 296) : dck 296 n = true := by
  have h : n < 18 := h
  exact dk_at dk296_0 (Nat.zero_le n) h
theorem dq297 (n : Nat) (h : n < szM 297) : dck 297 n = true := by
  have h : n < 13 := h
  exact dk_at dk297_0 (Nat.zero_le n) h
theorem dq298 (n : Nat) (h : n < szM 298) : dck 298 n = true := by
  have h : n < 15 := h
  exact dk_at dk298_0 (Nat.zero_le n) h
theorem dq299 (n : Nat) (h : n < szM 299) : dck 299 n = true := by
  have h : n < 1693 := h
  exact (Nat.lt_or_ge n 20).elim (fun u => dk_at dk299_0 (Nat.zero_le n) u) (fun h20 => (Nat.lt_or_ge n 40).elim (fun u => dk_at dk299_20 h20 u) (fun h40 => (Nat.lt_or_ge n 60).elim (fun u => dk_at dk299_40 h40 u) (fun h60 => (Nat.lt_or_ge n 80).elim (fun u => dk_at dk299_60 h60 u) (fun h80 => (Nat.lt_or_ge n 100).elim (fun u => dk_at dk299_80 h80 u) (fun h100 => (Nat.lt_or_ge n 120).elim (fun u => dk_at dk299_100 h100 u) (fun h120 => (Nat.lt_or_ge n 140).elim (fun u => dk_at dk299_120 h120 u) (fun h140 => (Nat.lt_or_ge n 160).elim (fun u => dk_at dk299_140 h140 u) (fun h160 => (Nat.lt_or_ge n 180).elim (fun u => dk_at dk299_160 h160 u) (fun h180 => (Nat.lt_or_ge n 200).elim (fun u => dk_at dk299_180 h180 u) (fun h200 => (Nat.lt_or_ge n 220).elim (fun u => dk_at dk299_200 h200 u) (fun h220 => (Nat.lt_or_ge n 240).elim (fun u => dk_at dk299_220 h220 u) (fun h240 => (Nat.lt_or_ge n 260).elim (fun u => dk_at dk299_240 h240 u) (fun h260 => (Nat.lt_or_ge n 280).elim (fun u => dk_at dk299_260 h260 u) (fun h280 => (Nat.lt_or_ge n 300).elim (fun u => dk_at dk299_280 h280 u) (fun h300 => (Nat.lt_or_ge n 320).elim (fun u => dk_at dk299_300 h300 u) (fun h320 => (Nat.lt_or_ge n 340).elim (fun u => dk_at dk299_320 h320 u) (fun h340 => (Nat.lt_or_ge n 360).elim (fun u => dk_at dk299_340 h340 u) (fun h360 => (Nat.lt_or_ge n 380).elim (fun u => dk_at dk299_360 h360 u) (fun h380 => (Nat.lt_or_ge n 400).elim (fun u => dk_at dk299_380 h380 u) (fun h400 => (Nat.lt_or_ge n 420).elim (fun u => dk_at dk299_400 h400 u) (fun h420 => (Nat.lt_or_ge n 440).elim (fun u => dk_at dk299_420 h420 u) (fun h440 => (Nat.lt_or_ge n 460).elim (fun u => dk_at dk299_440 h440 u) (fun h460 => (Nat.lt_or_ge n 480).elim (fun u => dk_at dk299_460 h460 u) (fun h480 => (Nat.lt_or_ge n 500).elim (fun u => dk_at dk299_480 h480 u) (fun h500 => (Nat.lt_or_ge n 520).elim (fun u => dk_at dk299_500 h500 u) (fun h520 => (Nat.lt_or_ge n 540).elim (fun u => dk_at dk299_520 h520 u) (fun h540 => (Nat.lt_or_ge n 560).elim (fun u => dk_at dk299_540 h540 u) (fun h560 => (Nat.lt_or_ge n 580).elim (fun u => dk_at dk299_560 h560 u) (fun h580 => (Nat.lt_or_ge n 600).elim (fun u => dk_at dk299_580 h580 u) (fun h600 => (Nat.lt_or_ge n 620).elim (fun u => dk_at dk299_600 h600 u) (fun h620 => (Nat.lt_or_ge n 640).elim (fun u => dk_at dk299_620 h620 u) (fun h640 => (Nat.lt_or_ge n 660).elim (fun u => dk_at dk299_640 h640 u) (fun h660 => (Nat.lt_or_ge n 680).elim (fun u => dk_at dk299_660 h660 u) (fun h680 => (Nat.lt_or_ge n 700).elim (fun u => dk_at dk299_680 h680 u) (fun h700 => (Nat.lt_or_ge n 720).elim (fun u => dk_at dk299_700 h700 u) (fun h720 => (Nat.lt_or_ge n 740).elim (fun u => dk_at dk299_720 h720 u) (fun h740 => (Nat.lt_or_ge n 760).elim (fun u => dk_at dk299_740 h740 u) (fun h760 => (Nat.lt_or_ge n 780).elim (fun u => dk_at dk299_760 h760 u) (fun h780 => (Nat.lt_or_ge n 800).elim (fun u => dk_at dk299_780 h780 u) (fun h800 => (Nat.lt_or_ge n 820).elim (fun u => dk_at dk299_800 h800 u) (fun h820 => (Nat.lt_or_ge n 840).elim (fun u => dk_at dk299_820 h820 u) (fun h840 => (Nat.lt_or_ge n 860).elim (fun u => dk_at dk299_840 h840 u) (fun h860 => (Nat.lt_or_ge n 880).elim (fun u => dk_at dk299_860 h860 u) (fun h880 => (Nat.lt_or_ge n 900).elim (fun u => dk_at dk299_880 h880 u) (fun h900 => (Nat.lt_or_ge n 920).elim (fun u => dk_at dk299_900 h900 u) (fun h920 => (Nat.lt_or_ge n 940).elim (fun u => dk_at dk299_920 h920 u) (fun h940 => (Nat.lt_or_ge n 960).elim (fun u => dk_at dk299_940 h940 u) (fun h960 => (Nat.lt_or_ge n 980).elim (fun u => dk_at dk299_960 h960 u) (fun h980 => (Nat.lt_or_ge n 1000).elim (fun u => dk_at dk299_980 h980 u) (fun h1000 => (Nat.lt_or_ge n 1020).elim (fun u => dk_at dk299_1000 h1000 u) (fun h1020 => (Nat.lt_or_ge n 1040).elim (fun u => dk_at dk299_1020 h1020 u) (fun h1040 => (Nat.lt_or_ge n 1060).elim (fun u => dk_at dk299_1040 h1040 u) (fun h1060 => (Nat.lt_or_ge n 1080).elim (fun u => dk_at dk299_1060 h1060 u) (fun h1080 => (Nat.lt_or_ge n 1100).elim (fun u => dk_at dk299_1080 h1080 u) (fun h1100 => (Nat.lt_or_ge n 1120).elim (fun u => dk_at dk299_1100 h1100 u) (fun h1120 => (Nat.lt_or_ge n 1140).elim (fun u => dk_at dk299_1120 h1120 u) (fun h1140 => (Nat.lt_or_ge n 1160).elim (fun u => dk_at dk299_1140 h1140 u) (fun h1160 => (Nat.lt_or_ge n 1180).elim (fun u => dk_at dk299_1160 h1160 u) (fun h1180 => (Nat.lt_or_ge n 1200).elim (fun u => dk_at dk299_1180 h1180 u) (fun h1200 => (Nat.lt_or_ge n 1220).elim (fun u => dk_at dk299_1200 h1200 u) (fun h1220 => (Nat.lt_or_ge n 1240).elim (fun u => dk_at dk299_1220 h1220 u) (fun h1240 => (Nat.lt_or_ge n 1260).elim (fun u => dk_at dk299_1240 h1240 u) (fun h1260 => (Nat.lt_or_ge n 1280).elim (fun u => dk_at dk299_1260 h1260 u) (fun h1280 => (Nat.lt_or_ge n 1300).elim (fun u => dk_at dk299_1280 h1280 u) (fun h1300 => (Nat.lt_or_ge n 1320).elim (fun u => dk_at dk299_1300 h1300 u) (fun h1320 => (Nat.lt_or_ge n 1340).elim (fun u => dk_at dk299_1320 h1320 u) (fun h1340 => (Nat.lt_or_ge n 1360).elim (fun u => dk_at dk299_1340 h1340 u) (fun h1360 => (Nat.lt_or_ge n 1380).elim (fun u => dk_at dk299_1360 h1360 u) (fun h1380 => (Nat.lt_or_ge n 1400).elim (fun u => dk_at dk299_1380 h1380 u) (fun h1400 => (Nat.lt_or_ge n 1420).elim (fun u => dk_at dk299_1400 h1400 u) (fun h1420 => (Nat.lt_or_ge n 1440).elim (fun u => dk_at dk299_1420 h1420 u) (fun h1440 => (Nat.lt_or_ge n 1460).elim (fun u => dk_at dk299_1440 h1440 u) (fun h1460 => (Nat.lt_or_ge n 1480).elim (fun u => dk_at dk299_1460 h1460 u) (fun h1480 => (Nat.lt_or_ge n 1500).elim (fun u => dk_at dk299_1480 h1480 u) (fun h1500 => (Nat.lt_or_ge n 1520).elim (fun u => dk_at dk299_1500 h1500 u) (fun h1520 => (Nat.lt_or_ge n 1540).elim (fun u => dk_at dk299_1520 h1520 u) (fun h1540 => (Nat.lt_or_ge n 1560).elim (fun u => dk_at dk299_1540 h1540 u) (fun h1560 => (Nat.lt_or_ge n 1580).elim (fun u => dk_at dk299_1560 h1560 u) (fun h1580 => (Nat.lt_or_ge n 1600).elim (fun u => dk_at dk299_1580 h1580 u) (fun h1600 => (Nat.lt_or_ge n 1620).elim (fun u => dk_at dk299_1600 h1600 u) (fun h1620 => (Nat.lt_or_ge n 1640).elim (fun u => dk_at dk299_1620 h1620 u) (fun h1640 => (Nat.lt_or_ge n 1660).elim (fun u => dk_at dk299_1640 h1640 u) (fun h1660 => (Nat.lt_or_ge n 1680).elim (fun u => dk_at dk299_1660 h1660 u) (fun h1680 => dk_at dk299_1680 h1680 h))))))))))))))))))))))))))))))))))))))))))))))))))))))))))))))))))))))))))))))))))))
theorem dr0 (j : Nat) (hj : j < 20) : ∀ n, n < szM (0 + j) → dck (0 + j) n = true := match j, hj with
  | 0, _ => dq0
  | 1, _ => dq1
  | 2, _ => dq2
  | 3, _ => dq3
  | 4, _ => dq4
  | 5, _ => dq5
  | 6, _ => dq6
  | 7, _ => dq7
  | 8, _ => dq8
  | 9, _ => dq9
  | 10, _ => dq10
  | 11, _ => dq11
  | 12, _ => dq12
  | 13, _ => dq13
  | 14, _ => dq14
  | 15, _ => dq15
  | 16, _ => dq16
  | 17, _ => dq17
  | 18, _ => dq18
  | 19, _ => dq19
  | j + 20, h => absurd h (by omega)
theorem yr0 (j : Nat) (hj : j < 20) : YOK (0 + j) := match j, hj with
  | 0, _ => yk0
  | 1, _ => yk1
  | 2, _ => yk2
  | 3, _ => yk3
  | 4, _ => yk4
  | 5, _ => yk5
  | 6, _ => yk6
  | 7, _ => yk7
  | 8, _ => yk8
  | 9, _ => yk9
  | 10, _ => yk10
  | 11, _ => yk11
  | 12, _ => yk12
  | 13, _ => yk13
  | 14, _ => yk14
  | 15, _ => yk15
  | 16, _ => yk16
  | 17, _ => yk17
  | 18, _ => yk18
  | 19, _ => yk19
  | j + 20, h => absurd h (by omega)
theorem dr1 (j : Nat) (hj : j < 20) : ∀ n, n < szM (20 + j) → dck (20 + j) n = true := match j, hj with
  | 0, _ => dq20
  | 1, _ => dq21
  | 2, _ => dq22
  | 3, _ => dq23
  | 4, _ => dq24
  | 5, _ => dq25
  | 6, _ => dq26
  | 7, _ => dq27
  | 8, _ => dq28
  | 9, _ => dq29
  | 10, _ => dq30
  | 11, _ => dq31
  | 12, _ => dq32
  | 13, _ => dq33
  | 14, _ => dq34
  | 15, _ => dq35
  | 16, _ => dq36
  | 17, _ => dq37
  | 18, _ => dq38
  | 19, _ => dq39
  | j + 20, h => absurd h (by omega)
theorem yr1 (j : Nat) (hj : j < 20) : YOK (20 + j) := match j, hj with
  | 0, _ => yk20
  | 1, _ => yk21
  | 2, _ => yk22
  | 3, _ => yk23
  | 4, _ => yk24
  | 5, _ => yk25
  | 6, _ => yk26
  | 7, _ => yk27
  | 8, _ => yk28
  | 9, _ => yk29
  | 10, _ => yk30
  | 11, _ => yk31
  | 12, _ => yk32
  | 13, _ => yk33
  | 14, _ => yk34
  | 15, _ => yk35
  | 16, _ => yk36
  | 17, _ => yk37
  | 18, _ => yk38
  | 19, _ => yk39
  | j + 20, h => absurd h (by omega)
theorem dr2 (j : Nat) (hj : j < 20) : ∀ n, n < szM (40 + j) → dck (40 + j) n = true := match j, hj with
  | 0, _ => dq40
  | 1, _ => dq41
  | 2, _ => dq42
  | 3, _ => dq43
  | 4, _ => dq44
  | 5, _ => dq45
  | 6, _ => dq46
  | 7, _ => dq47
  | 8, _ => dq48
  | 9, _ => dq49
  | 10, _ => dq50
  | 11, _ => dq51
  | 12, _ => dq52
  | 13, _ => dq53
  | 14, _ => dq54
  | 15, _ => dq55
  | 16, _ => dq56
  | 17, _ => dq57
  | 18, _ => dq58
  | 19, _ => dq59
  | j + 20, h => absurd h (by omega)
theorem yr2 (j : Nat) (hj : j < 20) : YOK (40 + j) := match j, hj with
  | 0, _ => yk40
  | 1, _ => yk41
  | 2, _ => yk42
  | 3, _ => yk43
  | 4, _ => yk44
  | 5, _ => yk45
  | 6, _ => yk46
  | 7, _ => yk47
  | 8, _ => yk48
  | 9, _ => yk49
  | 10, _ => yk50
  | 11, _ => yk51
  | 12, _ => yk52
  | 13, _ => yk53
  | 14, _ => yk54
  | 15, _ => yk55
  | 16, _ => yk56
  | 17, _ => yk57
  | 18, _ => yk58
  | 19, _ => yk59
  | j + 20, h => absurd h (by omega)
theorem dr3 (j : Nat) (hj : j < 20) : ∀ n, n < szM (60 + j) → dck (60 + j) n = true := match j, hj with
  | 0, _ => dq60
  | 1, _ => dq61
  | 2, _ => dq62
  | 3, _ => dq63
  | 4, _ => dq64
  | 5, _ => dq65
  | 6, _ => dq66
  | 7, _ => dq67
  | 8, _ => dq68
  | 9, _ => dq69
  | 10, _ => dq70
  | 11, _ => dq71
  | 12, _ => dq72
  | 13, _ => dq73
  | 14, _ => dq74
  | 15, _ => dq75
  | 16, _ => dq76
  | 17, _ => dq77
  | 18, _ => dq78
  | 19, _ => dq79
  | j + 20, h => absurd h (by omega)
theorem yr3 (j : Nat) (hj : j < 20) : YOK (60 + j) := match j, hj with
  | 0, _ => yk60
  | 1, _ => yk61
  | 2, _ => yk62
  | 3, _ => yk63
  | 4, _ => yk64
  | 5, _ => yk65
  | 6, _ => yk66
  | 7, _ => yk67
  | 8, _ => yk68
  | 9, _ => yk69
  | 10, _ => yk70
  | 11, _ => yk71
  | 12, _ => yk72
  | 13, _ => yk73
  | 14, _ => yk74
  | 15, _ => yk75
  | 16, _ => yk76
  | 17, _ => yk77
  | 18, _ => yk78
  | 19, _ => yk79
  | j + 20, h => absurd h (by omega)
theorem dr4 (j : Nat) (hj : j < 20) : ∀ n, n < szM (80 + j) → dck (80 + j) n = true := match j, hj with
  | 0, _ => dq80
  | 1, _ => dq81
  | 2, _ => dq82
  | 3, _ => dq83
  | 4, _ => dq84
  | 5, _ => dq85
  | 6, _ => dq86
  | 7, _ => dq87
  | 8, _ => dq88
  | 9, _ => dq89
  | 10, _ => dq90
  | 11, _ => dq91
  | 12, _ => dq92
  | 13, _ => dq93
  | 14, _ => dq94
  | 15, _ => dq95
  | 16, _ => dq96
  | 17, _ => dq97
  | 18, _ => dq98
  | 19, _ => dq99
  | j + 20, h => absurd h (by omega)
theorem yr4 (j : Nat) (hj : j < 20) : YOK (80 + j) := match j, hj with
  | 0, _ => yk80
  | 1, _ => yk81
  | 2, _ => yk82
  | 3, _ => yk83
  | 4, _ => yk84
  | 5, _ => yk85
  | 6, _ => yk86
  | 7, _ => yk87
  | 8, _ => yk88
  | 9, _ => yk89
  | 10, _ => yk90
  | 11, _ => yk91
  | 12, _ => yk92
  | 13, _ => yk93
  | 14, _ => yk94
  | 15, _ => yk95
  | 16, _ => yk96
  | 17, _ => yk97
  | 18, _ => yk98
  | 19, _ => yk99
  | j + 20, h => absurd h (by omega)
theorem dr5 (j : Nat) (hj : j < 20) : ∀ n, n < szM (100 + j) → dck (100 + j) n = true := match j, hj with
  | 0, _ => dq100
  | 1, _ => dq101
  | 2, _ => dq102
  | 3, _ => dq103
  | 4, _ => dq104
  | 5, _ => dq105
  | 6, _ => dq106
  | 7, _ => dq107
  | 8, _ => dq108
  | 9, _ => dq109
  | 10, _ => dq110
  | 11, _ => dq111
  | 12, _ => dq112
  | 13, _ => dq113
  | 14, _ => dq114
  | 15, _ => dq115
  | 16, _ => dq116
  | 17, _ => dq117
  | 18, _ => dq118
  | 19, _ => dq119
  | j + 20, h => absurd h (by omega)
theorem yr5 (j : Nat) (hj : j < 20) : YOK (100 + j) := match j, hj with
  | 0, _ => yk100
  | 1, _ => yk101
  | 2, _ => yk102
  | 3, _ => yk103
  | 4, _ => yk104
  | 5, _ => yk105
  | 6, _ => yk106
  | 7, _ => yk107
  | 8, _ => yk108
  | 9, _ => yk109
  | 10, _ => yk110
  | 11, _ => yk111
  | 12, _ => yk112
  | 13, _ => yk113
  | 14, _ => yk114
  | 15, _ => yk115
  | 16, _ => yk116
  | 17, _ => yk117
  | 18, _ => yk118
  | 19, _ => yk119
  | j + 20, h => absurd h (by omega)
theorem dr6 (j : Nat) (hj : j < 20) : ∀ n, n < szM (120 + j) → dck (120 + j) n = true := match j, hj with
  | 0, _ => dq120
  | 1, _ => dq121
  | 2, _ => dq122
  | 3, _ => dq123
  | 4, _ => dq124
  | 5, _ => dq125
  | 6, _ => dq126
  | 7, _ => dq127
  | 8, _ => dq128
  | 9, _ => dq129
  | 10, _ => dq130
  | 11, _ => dq131
  | 12, _ => dq132
  | 13, _ => dq133
  | 14, _ => dq134
  | 15, _ => dq135
  | 16, _ => dq136
  | 17, _ => dq137
  | 18, _ => dq138
  | 19, _ => dq139
  | j + 20, h => absurd h (by omega)
theorem yr6 (j : Nat) (hj : j < 20) : YOK (120 + j) := match j, hj with
  | 0, _ => yk120
  | 1, _ => yk121
  | 2, _ => yk122
  | 3, _ => yk123
  | 4, _ => yk124
  | 5, _ => yk125
  | 6, _ => yk126
  | 7, _ => yk127
  | 8, _ => yk128
  | 9, _ => yk129
  | 10, _ => yk130
  | 11, _ => yk131
  | 12, _ => yk132
  | 13, _ => yk133
  | 14, _ => yk134
  | 15, _ => yk135
  | 16, _ => yk136
  | 17, _ => yk137
  | 18, _ => yk138
  | 19, _ => yk139
  | j + 20, h => absurd h (by omega)
theorem dr7 (j : Nat) (hj : j < 20) : ∀ n, n < szM (140 + j) → dck (140 + j) n = true := match j, hj with
  | 0, _ => dq140
  | 1, _ => dq141
  | 2, _ => dq142
  | 3, _ => dq143
  | 4, _ => dq144
  | 5, _ => dq145
  | 6, _ => dq146
  | 7, _ => dq147
  | 8, _ => dq148
  | 9, _ => dq149
  | 10, _ => dq150
  | 11, _ => dq151
  | 12, _ => dq152
  | 13, _ => dq153
  | 14, _ => dq154
  | 15, _ => dq155
  | 16, _ => dq156
  | 17, _ => dq157
  | 18, _ => dq158
  | 19, _ => dq159
  | j + 20, h => absurd h (by omega)
theorem yr7 (j : Nat) (hj : j < 20) : YOK (140 + j) := match j, hj with
  | 0, _ => yk140
  | 1, _ => yk141
  | 2, _ => yk142
  | 3, _ => yk143
  | 4, _ => yk144
  | 5, _ => yk145
  | 6, _ => yk146
  | 7, _ => yk147
  | 8, _ => yk148
  | 9, _ => yk149
  | 10, _ => yk150
  | 11, _ => yk151
  | 12, _ => yk152
  | 13, _ => yk153
  | 14, _ => yk154
  | 15, _ => yk155
  | 16, _ => yk156
  | 17, _ => yk157
  | 18, _ => yk158
  | 19, _ => yk159
  | j + 20, h => absurd h (by omega)
theorem dr8 (j : Nat) (hj : j < 20) : ∀ n, n < szM (160 + j) → dck (160 + j) n = true := match j, hj with
  | 0, _ => dq160
  | 1, _ => dq161
  | 2, _ => dq162
  | 3, _ => dq163
  | 4, _ => dq164
  | 5, _ => dq165
  | 6, _ => dq166
  | 7, _ => dq167
  | 8, _ => dq168
  | 9, _ => dq169
  | 10, _ => dq170
  | 11, _ => dq171
  | 12, _ => dq172
  | 13, _ => dq173
  | 14, _ => dq174
  | 15, _ => dq175
  | 16, _ => dq176
  | 17, _ => dq177
  | 18, _ => dq178
  | 19, _ => dq179
  | j + 20, h => absurd h (by omega)
theorem yr8 (j : Nat) (hj : j < 20) : YOK (160 + j) := match j, hj with
  | 0, _ => yk160
  | 1, _ => yk161
  | 2, _ => yk162
  | 3, _ => yk163
  | 4, _ => yk164
  | 5, _ => yk165
  | 6, _ => yk166
  | 7, _ => yk167
  | 8, _ => yk168
  | 9, _ => yk169
  | 10, _ => yk170
  | 11, _ => yk171
  | 12, _ => yk172
  | 13, _ => yk173
  | 14, _ => yk174
  | 15, _ => yk175
  | 16, _ => yk176
  | 17, _ => yk177
  | 18, _ => yk178
  | 19, _ => yk179
  | j + 20, h => absurd h (by omega)
theorem dr9 (j : Nat) (hj : j < 20) : ∀ n, n < szM (180 + j) → dck (180 + j) n = true := match j, hj with
  | 0, _ => dq180
  | 1, _ => dq181
  | 2, _ => dq182
  | 3, _ => dq183
  | 4, _ => dq184
  | 5, _ => dq185
  | 6, _ => dq186
  | 7, _ => dq187
  | 8, _ => dq188
  | 9, _ => dq189
  | 10, _ => dq190
  | 11, _ => dq191
  | 12, _ => dq192
  | 13, _ => dq193
  | 14, _ => dq194
  | 15, _ => dq195
  | 16, _ => dq196
  | 17, _ => dq197
  | 18, _ => dq198
  | 19, _ => dq199
  | j + 20, h => absurd h (by omega)
theorem yr9 (j : Nat) (hj : j < 20) : YOK (180 + j) := match j, hj with
  | 0, _ => yk180
  | 1, _ => yk181
  | 2, _ => yk182
  | 3, _ => yk183
  | 4, _ => yk184
  | 5, _ => yk185
  | 6, _ => yk186
  | 7, _ => yk187
  | 8, _ => yk188
  | 9, _ => yk189
  | 10, _ => yk190
  | 11, _ => yk191
  | 12, _ => yk192
  | 13, _ => yk193
  | 14, _ => yk194
  | 15, _ => yk195
  | 16, _ => yk196
  | 17, _ => yk197
  | 18, _ => yk198
  | 19, _ => yk199
  | j + 20, h => absurd h (by omega)
theorem dr10 (j : Nat) (hj : j < 20) : ∀ n, n < szM (200 + j) → dck (200 + j) n = true := match j, hj with
  | 0, _ => dq200
  | 1, _ => dq201
  | 2, _ => dq202
  | 3, _ => dq203
  | 4, _ => dq204
  | 5, _ => dq205
  | 6, _ => dq206
  | 7, _ => dq207
  | 8, _ => dq208
  | 9, _ => dq209
  | 10, _ => dq210
  | 11, _ => dq211
  | 12, _ => dq212
  | 13, _ => dq213
  | 14, _ => dq214
  | 15, _ => dq215
  | 16, _ => dq216
  | 17, _ => dq217
  | 18, _ => dq218
  | 19, _ => dq219
  | j + 20, h => absurd h (by omega)
theorem yr10 (j : Nat) (hj : j < 20) : YOK (200 + j) := match j, hj with
  | 0, _ => yk200
  | 1, _ => yk201
  | 2, _ => yk202
  | 3, _ => yk203
  | 4, _ => yk204
  | 5, _ => yk205
  | 6, _ => yk206
  | 7, _ => yk207
  | 8, _ => yk208
  | 9, _ => yk209
  | 10, _ => yk210
  | 11, _ => yk211
  | 12, _ => yk212
  | 13, _ => yk213
  | 14, _ => yk214
  | 15, _ => yk215
  | 16, _ => yk216
  | 17, _ => yk217
  | 18, _ => yk218
  | 19, _ => yk219
  | j + 20, h => absurd h (by omega)
theorem dr11 (j : Nat) (hj : j < 20) : ∀ n, n < szM (220 + j) → dck (220 + j) n = true := match j, hj with
  | 0, _ => dq220
  | 1, _ => dq221
  | 2, _ => dq222
  | 3, _ => dq223
  | 4, _ => dq224
  | 5, _ => dq225
  | 6, _ => dq226
  | 7, _ => dq227
  | 8, _ => dq228
  | 9, _ => dq229
  | 10, _ => dq230
  | 11, _ => dq231
  | 12, _ => dq232
  | 13, _ => dq233
  | 14, _ => dq234
  | 15, _ => dq235
  | 16, _ => dq236
  | 17, _ => dq237
  | 18, _ => dq238
  | 19, _ => dq239
  | j + 20, h => absurd h (by omega)
theorem yr11 (j : Nat) (hj : j < 20) : YOK (220 + j) := match j, hj with
  | 0, _ => yk220
  | 1, _ => yk221
  | 2, _ => yk222
  | 3, _ => yk223
  | 4, _ => yk224
  | 5, _ => yk225
  | 6, _ => yk226
  | 7, _ => yk227
  | 8, _ => yk228
  | 9, _ => yk229
  | 10, _ => yk230
  | 11, _ => yk231
  | 12, _ => yk232
  | 13, _ => yk233
  | 14, _ => yk234
  | 15, _ => yk235
  | 16, _ => yk236
  | 17, _ => yk237
  | 18, _ => yk238
  | 19, _ => yk239
  | j + 20, h => absurd h (by omega)
theorem dr12 (j : Nat) (hj : j < 20) : ∀ n, n < szM (240 + j) → dck (240 + j) n = true := match j, hj with
  | 0, _ => dq240
  | 1, _ => dq241
  | 2, _ => dq242
  | 3, _ => dq243
  | 4, _ => dq244
  | 5, _ => dq245
  | 6, _ => dq246
  | 7, _ => dq247
  | 8, _ => dq248
  | 9, _ => dq249
  | 10, _ => dq250
  | 11, _ => dq251
  | 12, _ => dq252
  | 13, _ => dq253
  | 14, _ => dq254
  | 15, _ => dq255
  | 16, _ => dq256
  | 17, _ => dq257
  | 18, _ => dq258
  | 19, _ => dq259
  | j + 20, h => absurd h (by omega)
theorem yr12 (j : Nat) (hj : j < 20) : YOK (240 + j) := match j, hj with
  | 0, _ => yk240
  | 1, _ => yk241
  | 2, _ => yk242
  | 3, _ => yk243
  | 4, _ => yk244
  | 5, _ => yk245
  | 6, _ => yk246
  | 7, _ => yk247
  | 8, _ => yk248
  | 9, _ => yk249
  | 10, _ => yk250
  | 11, _ => yk251
  | 12, _ => yk252
  | 13, _ => yk253
  | 14, _ => yk254
  | 15, _ => yk255
  | 16, _ => yk256
  | 17, _ => yk257
  | 18, _ => yk258
  | 19, _ => yk259
  | j + 20, h => absurd h (by omega)
theorem dr13 (j : Nat) (hj : j < 20) : ∀ n, n < szM (260 + j) → dck (260 + j) n = true := match j, hj with
  | 0, _ => dq260
  | 1, _ => dq261
  | 2, _ => dq262
  | 3, _ => dq263
  | 4, _ => dq264
  | 5, _ => dq265
  | 6, _ => dq266
  | 7, _ => dq267
  | 8, _ => dq268
  | 9, _ => dq269
  | 10, _ => dq270
  | 11, _ => dq271
  | 12, _ => dq272
  | 13, _ => dq273
  | 14, _ => dq274
  | 15, _ => dq275
  | 16, _ => dq276
  | 17, _ => dq277
  | 18, _ => dq278
  | 19, _ => dq279
  | j + 20, h => absurd h (by omega)
theorem yr13 (j : Nat) (hj : j < 20) : YOK (260 + j) := match j, hj with
  | 0, _ => yk260
  | 1, _ => yk261
  | 2, _ => yk262
  | 3, _ => yk263
  | 4, _ => yk264
  | 5, _ => yk265
  | 6, _ => yk266
  | 7, _ => yk267
  | 8, _ => yk268
  | 9, _ => yk269
  | 10, _ => yk270
  | 11, _ => yk271
  | 12, _ => yk272
  | 13, _ => yk273
  | 14, _ => yk274
  | 15, _ => yk275
  | 16, _ => yk276
  | 17, _ => yk277
  | 18, _ => yk278
  | 19, _ => yk279
  | j + 20, h => absurd h (by omega)
theorem dr14 (j : Nat) (hj : j < 20) : ∀ n, n < szM (280 + j) → dck (280 + j) n = true := match j, hj with
  | 0, _ => dq280
  | 1, _ => dq281
  | 2, _ => dq282
  | 3, _ => dq283
  | 4, _ => dq284
  | 5, _ => dq285
  | 6, _ => dq286
  | 7, _ => dq287
  | 8, _ => dq288
  | 9, _ => dq289
  | 10, _ => dq290
  | 11, _ => dq291
  | 12, _ => dq292
  | 13, _ => dq293
  | 14, _ => dq294
  | 15, _ => dq295
  | 16, _ => dq296
  | 17, _ => dq297
  | 18, _ => dq298
  | 19, _ => dq299
  | j + 20, h => absurd h (by omega)
theorem yr14 (j : Nat) (hj : j < 19) : YOK (280 + j) := match j, hj with
  | 0, _ => yk280
  | 1, _ => yk281
  | 2, _ => yk282
  | 3, _ => yk283
  | 4, _ => yk284
  | 5, _ => yk285
  | 6, _ => yk286
  | 7, _ => yk287
  | 8, _ => yk288
  | 9, _ => yk289
  | 10, _ => yk290
  | 11, _ => yk291
  | 12, _ => yk292
  | 13, _ => yk293
  | 14, _ => yk294
  | 15, _ => yk295
  | 16, _ => yk296
  | 17, _ => yk297
  | 18, _ => yk298
  | j + 19, h => absurd h (by omega)
theorem dk_all (M : Nat) (hM : M ≤ 299) : ∀ n, n < szM M → dck M n = true := by
  have q := Nat.div_add_mod M 20
  have r := Nat.mod_lt M (show 0 < 20 by decide)
  generalize M / 20 = a at q
  generalize M % 20 = b at q r
  subst q
  match a, hM with
  | 0, _ => exact dr0 b r
  | 1, _ => exact dr1 b r
  | 2, _ => exact dr2 b r
  | 3, _ => exact dr3 b r
  | 4, _ => exact dr4 b r
  | 5, _ => exact dr5 b r
  | 6, _ => exact dr6 b r
  | 7, _ => exact dr7 b r
  | 8, _ => exact dr8 b r
  | 9, _ => exact dr9 b r
  | 10, _ => exact dr10 b r
  | 11, _ => exact dr11 b r
  | 12, _ => exact dr12 b r
  | 13, _ => exact dr13 b r
  | 14, _ => exact dr14 b r
  | a + 15, h => exact absurd h (by omega)
theorem yk_all (M : Nat) (hM : M < 299) : YOK M := by
  have q := Nat.div_add_mod M 20
  have r := Nat.mod_lt M (show 0 < 20 by decide)
  generalize M / 20 = a at q
  generalize M % 20 = b at q r
  subst q
  match a, hM with
  | 0, h => exact yr0 b (by omega)
  | 1, h => exact yr1 b (by omega)
  | 2, h => exact yr2 b (by omega)
  | 3, h => exact yr3 b (by omega)
  | 4, h => exact yr4 b (by omega)
  | 5, h => exact yr5 b (by omega)
  | 6, h => exact yr6 b (by omega)
  | 7, h => exact yr7 b (by omega)
  | 8, h => exact yr8 b (by omega)
  | 9, h => exact yr9 b (by omega)
  | 10, h => exact yr10 b (by omega)
  | 11, h => exact yr11 b (by omega)
  | 12, h => exact yr12 b (by omega)
  | 13, h => exact yr13 b (by omega)
  | 14, h => exact yr14 b (by omega)
  | a + 15, h => exact absurd h (by omega)
theorem tbl_ok : TblOK := ⟨lay_ok, fkl_ok, ckl_ok, mkl_ok, yk_all, dk_all, big_of 612 (by decide +kernel) (by decide +kernel), big_of 1888 (by decide +kernel) (by decide +kernel)⟩
