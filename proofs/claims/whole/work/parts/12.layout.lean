/-! where each reference field leads, once all is made -/
def RF (i k : Nat) : Option Nat :=
  if i < 10 then if i = 0 then [some 1, some 3, some 7, some 9, some 60, some 69, some 344, some 449, some 450, some 454, none].getD k none else if i = 1 then [some 2, none, none].getD k none else if i = 3 then [none, none, some 4, some 5, some 6].getD k none else if i = 7 then [none, some 8].getD k none else if i = 9 then [some 10, some 11, none, none].getD k none else none
  else if i < 60 then (if i = 10 then (if k < 8 then some (12 + 6 * k) else none) else if i = 11 then (if k < 8 then some (16 + 6 * k) else none) else if (i - 12) % 6 = 0 then [none, none, some (i + 1), some (i + 2), some (i + 3)].getD k none else if (i - 12) % 6 = 4 then [none, some (i + 1)].getD k none else none)
  else if i < 71 then if i = 60 then [some 61, some 62, none, some 63, some 64, some 65, none, some 66, some 67, none, none, some 68].getD k none else if i = 69 then [some 70, none, some 71, some 72, some 73, some 74, some 75, none].getD k none else none
  else if i = 71 then (if k < 252 then some (76 + k) else none)
  else if i = 72 then (if k < 8 then some (328 + 2 * k) else none)
  else if i = 73 then (if k < 8 then some (329 + 2 * k) else none)
  else if i = 344 then [some 345, some 346, some 347, some 348, none, none, none, none].getD k none
  else if i = 345 then (if k < 100 then some (349 + k) else none)
  else if i < 463 then if i = 450 then [none, none, some 451, some 452, some 453].getD k none else if i = 454 then [some 455, some 456, none, some 457, some 458, some 459, none, some 460, some 461, none, none, some 462].getD k none else none
  else if i = 463 then [some 464, none, some 465, none, some 466, none, some 467, some 468, some 469, none, some 470, some 471, none, some 472, some 473, some 474, some 475, some 476, none, none, none, none, some 477, some 478, some 479, none, none, none, none].getD k none else none
theorem rf_0_0 : RF 0 0 = some 1 := rfl
theorem rf_0_1 : RF 0 1 = some 3 := rfl
theorem rf_0_2 : RF 0 2 = some 7 := rfl
theorem rf_0_3 : RF 0 3 = some 9 := rfl
theorem rf_0_4 : RF 0 4 = some 60 := rfl
theorem rf_0_5 : RF 0 5 = some 69 := rfl
theorem rf_0_6 : RF 0 6 = some 344 := rfl
theorem rf_0_7 : RF 0 7 = some 449 := rfl
theorem rf_0_8 : RF 0 8 = some 450 := rfl
theorem rf_0_9 : RF 0 9 = some 454 := rfl
theorem rf_1_0 : RF 1 0 = some 2 := rfl
theorem rf_3_2 : RF 3 2 = some 4 := rfl
theorem rf_3_3 : RF 3 3 = some 5 := rfl
theorem rf_3_4 : RF 3 4 = some 6 := rfl
theorem rf_7_1 : RF 7 1 = some 8 := rfl
theorem rf_9_0 : RF 9 0 = some 10 := rfl
theorem rf_9_1 : RF 9 1 = some 11 := rfl
theorem rf_60_0 : RF 60 0 = some 61 := rfl
theorem rf_60_1 : RF 60 1 = some 62 := rfl
theorem rf_60_3 : RF 60 3 = some 63 := rfl
theorem rf_60_4 : RF 60 4 = some 64 := rfl
theorem rf_60_5 : RF 60 5 = some 65 := rfl
theorem rf_60_7 : RF 60 7 = some 66 := rfl
theorem rf_60_8 : RF 60 8 = some 67 := rfl
theorem rf_60_11 : RF 60 11 = some 68 := rfl
theorem rf_69_0 : RF 69 0 = some 70 := rfl
theorem rf_69_2 : RF 69 2 = some 71 := rfl
theorem rf_69_3 : RF 69 3 = some 72 := rfl
theorem rf_69_4 : RF 69 4 = some 73 := rfl
theorem rf_69_5 : RF 69 5 = some 74 := rfl
theorem rf_69_6 : RF 69 6 = some 75 := rfl
theorem rf_344_0 : RF 344 0 = some 345 := rfl
theorem rf_344_1 : RF 344 1 = some 346 := rfl
theorem rf_344_2 : RF 344 2 = some 347 := rfl
theorem rf_344_3 : RF 344 3 = some 348 := rfl
theorem rf_450_2 : RF 450 2 = some 451 := rfl
theorem rf_450_3 : RF 450 3 = some 452 := rfl
theorem rf_450_4 : RF 450 4 = some 453 := rfl
theorem rf_454_0 : RF 454 0 = some 455 := rfl
theorem rf_454_1 : RF 454 1 = some 456 := rfl
theorem rf_454_3 : RF 454 3 = some 457 := rfl
theorem rf_454_4 : RF 454 4 = some 458 := rfl
theorem rf_454_5 : RF 454 5 = some 459 := rfl
theorem rf_454_7 : RF 454 7 = some 460 := rfl
theorem rf_454_8 : RF 454 8 = some 461 := rfl
theorem rf_454_11 : RF 454 11 = some 462 := rfl
theorem rf_463_0 : RF 463 0 = some 464 := rfl
theorem rf_463_2 : RF 463 2 = some 465 := rfl
theorem rf_463_4 : RF 463 4 = some 466 := rfl
theorem rf_463_6 : RF 463 6 = some 467 := rfl
theorem rf_463_7 : RF 463 7 = some 468 := rfl
theorem rf_463_8 : RF 463 8 = some 469 := rfl
theorem rf_463_10 : RF 463 10 = some 470 := rfl
theorem rf_463_11 : RF 463 11 = some 471 := rfl
theorem rf_463_13 : RF 463 13 = some 472 := rfl
theorem rf_463_14 : RF 463 14 = some 473 := rfl
theorem rf_463_15 : RF 463 15 = some 474 := rfl
theorem rf_463_16 : RF 463 16 = some 475 := rfl
theorem rf_463_17 : RF 463 17 = some 476 := rfl
theorem rf_463_22 : RF 463 22 = some 477 := rfl
theorem rf_463_23 : RF 463 23 = some 478 := rfl
theorem rf_463_24 : RF 463 24 = some 479 := rfl
theorem rf_gr {k : Nat} (h : k < 8) : RF 10 k = some (12 + 6 * k) := by simp [RF, h]
theorem rf_ru {k : Nat} (h : k < 8) : RF 11 k = some (16 + 6 * k) := by simp [RF, h]
theorem rf_so {k : Nat} (h : k < 252) : RF 71 k = some (76 + k) := by simp [RF, h]
theorem rf_in {k : Nat} (h : k < 8) : RF 72 k = some (328 + 2 * k) := by simp [RF, h]
theorem rf_ou {k : Nat} (h : k < 8) : RF 73 k = some (329 + 2 * k) := by simp [RF, h]
theorem rf_ma {k : Nat} (h : k < 100) : RF 345 k = some (349 + k) := by simp [RF, h]
theorem rf_g2 {j : Nat} (h : j < 8) : RF (12 + 6 * j) 2 = some (13 + 6 * j) := by
  have h1 : ¬ 12 + 6 * j < 10 := by omega
  have h2 : 12 + 6 * j < 60 := by omega
  have h3 : ¬ 12 + 6 * j = 10 := by omega
  have h4 : ¬ 12 + 6 * j = 11 := by omega
  have h5 : (12 + 6 * j - 12) % 6 = 0 := by omega
  simp only [RF, h1, h2, h3, h4, h5, if_true, if_false]
  show some (12 + 6 * j + 1) = _
  congr 1
  omega
theorem rf_g3 {j : Nat} (h : j < 8) : RF (12 + 6 * j) 3 = some (14 + 6 * j) := by
  have h1 : ¬ 12 + 6 * j < 10 := by omega
  have h2 : 12 + 6 * j < 60 := by omega
  have h3 : ¬ 12 + 6 * j = 10 := by omega
  have h4 : ¬ 12 + 6 * j = 11 := by omega
  have h5 : (12 + 6 * j - 12) % 6 = 0 := by omega
  simp only [RF, h1, h2, h3, h4, h5, if_true, if_false]
  show some (12 + 6 * j + 2) = _
  congr 1
  omega
theorem rf_g4 {j : Nat} (h : j < 8) : RF (12 + 6 * j) 4 = some (15 + 6 * j) := by
  have h1 : ¬ 12 + 6 * j < 10 := by omega
  have h2 : 12 + 6 * j < 60 := by omega
  have h3 : ¬ 12 + 6 * j = 10 := by omega
  have h4 : ¬ 12 + 6 * j = 11 := by omega
  have h5 : (12 + 6 * j - 12) % 6 = 0 := by omega
  simp only [RF, h1, h2, h3, h4, h5, if_true, if_false]
  show some (12 + 6 * j + 3) = _
  congr 1
  omega
theorem rf_r1 {j : Nat} (h : j < 8) : RF (16 + 6 * j) 1 = some (17 + 6 * j) := by
  have h1 : ¬ 16 + 6 * j < 10 := by omega
  have h2 : 16 + 6 * j < 60 := by omega
  have h3 : ¬ 16 + 6 * j = 10 := by omega
  have h4 : ¬ 16 + 6 * j = 11 := by omega
  have h5 : ¬ (16 + 6 * j - 12) % 6 = 0 := by omega
  have h6 : (16 + 6 * j - 12) % 6 = 4 := by omega
  simp only [RF, h1, h2, h3, h4, h5, h6, if_true, if_false]
  show some (16 + 6 * j + 1) = _
  congr 1
  omega
theorem sh_m12 {j : Nat} (h : j < 8) : shp (12 + 6 * j) = 3 := by
  have h1 : ¬ 12 + 6 * j < 12 := by omega
  have h2 : 12 + 6 * j < 60 := by omega
  have h5 : (12 + 6 * j - 12) % 6 = 0 := by omega
  simp only [shp, h1, h2, h5, if_true, if_false]
  rfl
theorem sh_m13 {j : Nat} (h : j < 8) : shp (13 + 6 * j) = 20 := by
  have h1 : ¬ 13 + 6 * j < 12 := by omega
  have h2 : 13 + 6 * j < 60 := by omega
  have h5 : (13 + 6 * j - 12) % 6 = 1 := by omega
  simp only [shp, h1, h2, h5, if_true, if_false]
  rfl
theorem sh_m14 {j : Nat} (h : j < 8) : shp (14 + 6 * j) = 20 := by
  have h1 : ¬ 14 + 6 * j < 12 := by omega
  have h2 : 14 + 6 * j < 60 := by omega
  have h5 : (14 + 6 * j - 12) % 6 = 2 := by omega
  simp only [shp, h1, h2, h5, if_true, if_false]
  rfl
theorem sh_m15 {j : Nat} (h : j < 8) : shp (15 + 6 * j) = 20 := by
  have h1 : ¬ 15 + 6 * j < 12 := by omega
  have h2 : 15 + 6 * j < 60 := by omega
  have h5 : (15 + 6 * j - 12) % 6 = 3 := by omega
  simp only [shp, h1, h2, h5, if_true, if_false]
  rfl
theorem sh_m16 {j : Nat} (h : j < 8) : shp (16 + 6 * j) = 7 := by
  have h1 : ¬ 16 + 6 * j < 12 := by omega
  have h2 : 16 + 6 * j < 60 := by omega
  have h5 : (16 + 6 * j - 12) % 6 = 4 := by omega
  simp only [shp, h1, h2, h5, if_true, if_false]
  rfl
theorem sh_m17 {j : Nat} (h : j < 8) : shp (17 + 6 * j) = 1 := by
  have h1 : ¬ 17 + 6 * j < 12 := by omega
  have h2 : 17 + 6 * j < 60 := by omega
  have h5 : (17 + 6 * j - 12) % 6 = 5 := by omega
  simp only [shp, h1, h2, h5, if_true, if_false]
  rfl
theorem al_m13 {j : Nat} (h : j < 8) : alen (13 + 6 * j) = 24 := by
  have h1 : ¬ 13 + 6 * j < 12 := by omega
  have h2 : 13 + 6 * j < 60 := by omega
  simp only [alen, h1, h2, if_true, if_false]
theorem al_m14 {j : Nat} (h : j < 8) : alen (14 + 6 * j) = 24 := by
  have h1 : ¬ 14 + 6 * j < 12 := by omega
  have h2 : 14 + 6 * j < 60 := by omega
  simp only [alen, h1, h2, if_true, if_false]
theorem al_m15 {j : Nat} (h : j < 8) : alen (15 + 6 * j) = 24 := by
  have h1 : ¬ 15 + 6 * j < 12 := by omega
  have h2 : 15 + 6 * j < 60 := by omega
  simp only [alen, h1, h2, if_true, if_false]
theorem sh_so {k : Nat} (h : k < 252) : shp (76 + k) = 1 := by
  have h1 : ¬ 76 + k < 12 := by omega
  have h2 : ¬ 76 + k < 60 := by omega
  have h3 : ¬ 76 + k < 76 := by omega
  first
    | (have h4 : 76 + k < 344 := by omega
       simp only [shp, h1, h2, h3, h4, if_true, if_false]
       done)
    | (have h4 : ¬ 76 + k < 344 := by omega
       have h5 : ¬ 76 + k < 349 := by omega
       have h6 : 76 + k < 449 := by omega
       simp only [shp, h1, h2, h3, h4, h5, h6, if_true, if_false]
       done)
theorem sh_in {k : Nat} (h : k < 8) : shp (328 + 2 * k) = 1 := by
  have h1 : ¬ 328 + 2 * k < 12 := by omega
  have h2 : ¬ 328 + 2 * k < 60 := by omega
  have h3 : ¬ 328 + 2 * k < 76 := by omega
  first
    | (have h4 : 328 + 2 * k < 344 := by omega
       simp only [shp, h1, h2, h3, h4, if_true, if_false]
       done)
    | (have h4 : ¬ 328 + 2 * k < 344 := by omega
       have h5 : ¬ 328 + 2 * k < 349 := by omega
       have h6 : 328 + 2 * k < 449 := by omega
       simp only [shp, h1, h2, h3, h4, h5, h6, if_true, if_false]
       done)
theorem sh_ou {k : Nat} (h : k < 8) : shp (329 + 2 * k) = 1 := by
  have h1 : ¬ 329 + 2 * k < 12 := by omega
  have h2 : ¬ 329 + 2 * k < 60 := by omega
  have h3 : ¬ 329 + 2 * k < 76 := by omega
  first
    | (have h4 : 329 + 2 * k < 344 := by omega
       simp only [shp, h1, h2, h3, h4, if_true, if_false]
       done)
    | (have h4 : ¬ 329 + 2 * k < 344 := by omega
       have h5 : ¬ 329 + 2 * k < 349 := by omega
       have h6 : 329 + 2 * k < 449 := by omega
       simp only [shp, h1, h2, h3, h4, h5, h6, if_true, if_false]
       done)
theorem sh_ma {k : Nat} (h : k < 100) : shp (349 + k) = 1 := by
  have h1 : ¬ 349 + k < 12 := by omega
  have h2 : ¬ 349 + k < 60 := by omega
  have h3 : ¬ 349 + k < 76 := by omega
  first
    | (have h4 : 349 + k < 344 := by omega
       simp only [shp, h1, h2, h3, h4, if_true, if_false]
       done)
    | (have h4 : ¬ 349 + k < 344 := by omega
       have h5 : ¬ 349 + k < 349 := by omega
       have h6 : 349 + k < 449 := by omega
       simp only [shp, h1, h2, h3, h4, h5, h6, if_true, if_false]
       done)
theorem sh_0 : shp 0 = 9 := rfl
theorem sh_1 : shp 1 = 8 := rfl
theorem sh_2 : shp 2 = 20 := rfl
theorem sh_3 : shp 3 = 3 := rfl
theorem sh_4 : shp 4 = 20 := rfl
theorem sh_5 : shp 5 = 20 := rfl
theorem sh_6 : shp 6 = 20 := rfl
theorem sh_7 : shp 7 = 7 := rfl
theorem sh_8 : shp 8 = 1 := rfl
theorem sh_9 : shp 9 = 4 := rfl
theorem sh_10 : shp 10 = 23 := rfl
theorem sh_11 : shp 11 = 24 := rfl
theorem sh_60 : shp 60 = 0 := rfl
theorem sh_61 : shp 61 = 2 := rfl
theorem sh_62 : shp 62 = 20 := rfl
theorem sh_63 : shp 63 = 20 := rfl
theorem sh_64 : shp 64 = 20 := rfl
theorem sh_65 : shp 65 = 20 := rfl
theorem sh_66 : shp 66 = 20 := rfl
theorem sh_67 : shp 67 = 20 := rfl
theorem sh_68 : shp 68 = 1 := rfl
theorem sh_69 : shp 69 = 5 := rfl
theorem sh_70 : shp 70 = 20 := rfl
theorem sh_71 : shp 71 = 25 := rfl
theorem sh_72 : shp 72 = 25 := rfl
theorem sh_73 : shp 73 = 25 := rfl
theorem sh_74 : shp 74 = 1 := rfl
theorem sh_75 : shp 75 = 1 := rfl
theorem sh_344 : shp 344 = 6 := rfl
theorem sh_345 : shp 345 = 25 := rfl
theorem sh_346 : shp 346 = 20 := rfl
theorem sh_347 : shp 347 = 20 := rfl
theorem sh_348 : shp 348 = 1 := rfl
theorem sh_449 : shp 449 = 2 := rfl
theorem sh_450 : shp 450 = 3 := rfl
theorem sh_451 : shp 451 = 20 := rfl
theorem sh_452 : shp 452 = 20 := rfl
theorem sh_453 : shp 453 = 20 := rfl
theorem sh_454 : shp 454 = 0 := rfl
theorem sh_455 : shp 455 = 2 := rfl
theorem sh_456 : shp 456 = 20 := rfl
theorem sh_457 : shp 457 = 20 := rfl
theorem sh_458 : shp 458 = 20 := rfl
theorem sh_459 : shp 459 = 20 := rfl
theorem sh_460 : shp 460 = 20 := rfl
theorem sh_461 : shp 461 = 20 := rfl
theorem sh_462 : shp 462 = 1 := rfl
theorem sh_463 : shp 463 = 10 := rfl
theorem sh_464 : shp 464 = 20 := rfl
theorem sh_465 : shp 465 = 20 := rfl
theorem sh_466 : shp 466 = 20 := rfl
theorem sh_467 : shp 467 = 20 := rfl
theorem sh_468 : shp 468 = 20 := rfl
theorem sh_469 : shp 469 = 20 := rfl
theorem sh_470 : shp 470 = 22 := rfl
theorem sh_471 : shp 471 = 20 := rfl
theorem sh_472 : shp 472 = 20 := rfl
theorem sh_473 : shp 473 = 21 := rfl
theorem sh_474 : shp 474 = 21 := rfl
theorem sh_475 : shp 475 = 21 := rfl
theorem sh_476 : shp 476 = 21 := rfl
theorem sh_477 : shp 477 = 20 := rfl
theorem sh_478 : shp 478 = 20 := rfl
theorem sh_479 : shp 479 = 20 := rfl
theorem al_2 : alen 2 = 80 := rfl
theorem al_4 : alen 4 = 24 := rfl
theorem al_5 : alen 5 = 24 := rfl
theorem al_6 : alen 6 = 24 := rfl
theorem al_10 : alen 10 = 8 := rfl
theorem al_11 : alen 11 = 8 := rfl
theorem al_62 : alen 62 = 1022 := rfl
theorem al_63 : alen 63 = 252 := rfl
theorem al_64 : alen 64 = 252 := rfl
theorem al_65 : alen 65 = 252 := rfl
theorem al_66 : alen 66 = 125 := rfl
theorem al_67 : alen 67 = 125 := rfl
theorem al_70 : alen 70 = 125 := rfl
theorem al_71 : alen 71 = 252 := rfl
theorem al_72 : alen 72 = 8 := rfl
theorem al_73 : alen 73 = 8 := rfl
theorem al_345 : alen 345 = 100 := rfl
theorem al_346 : alen 346 = 800 := rfl
theorem al_347 : alen 347 = 100 := rfl
theorem al_451 : alen 451 = 24 := rfl
theorem al_452 : alen 452 = 24 := rfl
theorem al_453 : alen 453 = 24 := rfl
theorem al_456 : alen 456 = 1022 := rfl
theorem al_457 : alen 457 = 252 := rfl
theorem al_458 : alen 458 = 252 := rfl
theorem al_459 : alen 459 = 252 := rfl
theorem al_460 : alen 460 = 125 := rfl
theorem al_461 : alen 461 = 125 := rfl
theorem al_464 : alen 464 = 2030 := rfl
theorem al_465 : alen 465 = 1022 := rfl
theorem al_466 : alen 466 = 256 := rfl
theorem al_467 : alen 467 = 128 := rfl
theorem al_468 : alen 468 = 128 := rfl
theorem al_469 : alen 469 = 128 := rfl
theorem al_470 : alen 470 = 128 := rfl
theorem al_471 : alen 471 = 128 := rfl
theorem al_472 : alen 472 = 128 := rfl
theorem al_473 : alen 473 = 16 := rfl
theorem al_474 : alen 474 = 16 := rfl
theorem al_475 : alen 475 = 101 := rfl
theorem al_476 : alen 476 = 101 := rfl
theorem al_477 : alen 477 = 101 := rfl
theorem al_478 : alen 478 = 10 := rfl
theorem al_479 : alen 479 = 80 := rfl
abbrev mk (I : Nat → Nat → Int32) (L : Nat → Nat → Int64) : Mu := (I, L, RF, 480)
