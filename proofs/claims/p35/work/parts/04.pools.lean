abbrev PK : Type := Option Nat × Nat × FieldType × (Nat → Option Nat)
def pt : Nat → PK := fun t => match t with
  | 0 => (some 12, 60, .int, fun k => match k with | 1 => some 1 | 2 => some 2 | 3 => some 3 | 4 => some 4 | 7 => some 5 | 8 => some 6 | 9 => some 7 | 10 => some 8 | 11 => some 9 | 12 => some 10 | 13 => some 11 | 14 => some 12 | 15 => some 13 | 16 => some 14 | 17 => some 15 | 18 => some 16 | 19 => some 17 | 21 => some 18 | 22 => some 19 | 23 => some 20 | 25 => some 21 | 26 => some 22 | 27 => some 23 | 28 => some 24 | 29 => some 25 | 31 => some 26 | 32 => some 27 | 33 => some 28 | 34 => some 29 | 35 => some 30 | 36 => some 31 | 38 => some 32 | 39 => some 33 | 40 => some 34 | 42 => some 35 | 43 => some 36 | 44 => some 37 | 45 => some 38 | 46 => some 39 | 47 => some 40 | 49 => some 41 | 50 => some 42 | 51 => some 43 | 52 => some 44 | 53 => some 45 | 54 => some 46 | 58 => some 47 | 59 => some 48 | _ => none)
  | 1 => (none, 10, .int, fun _ => none)
  | 2 => (none, 100, .int, fun _ => none)
  | 3 => (none, 10, .int, fun _ => none)
  | 4 => (none, 10, .int, fun _ => none)
  | 5 => (none, 40, .int, fun _ => none)
  | 6 => (none, 40, .int, fun _ => none)
  | 7 => (none, 40, .int, fun _ => none)
  | 8 => (none, 40, .int, fun _ => none)
  | 9 => (none, 40, .int, fun _ => none)
  | 10 => (none, 40, .int, fun _ => none)
  | 11 => (none, 40, .boolean, fun _ => none)
  | 12 => (none, 40, .int, fun _ => none)
  | 13 => (none, 40, .int, fun _ => none)
  | 14 => (none, 40, .int, fun _ => none)
  | 15 => (none, 4, .int, fun _ => none)
  | 16 => (none, 7, .int, fun _ => none)
  | 17 => (none, 6, .int, fun _ => none)
  | 18 => (none, 80, .int, fun _ => none)
  | 19 => (none, 20, .int, fun _ => none)
  | 20 => (none, 40, .boolean, fun _ => none)
  | 21 => (none, 30, .int, fun _ => none)
  | 22 => (none, 30, .int, fun _ => none)
  | 23 => (none, 30, .int, fun _ => none)
  | 24 => (none, 30, .int, fun _ => none)
  | 25 => (none, 30, .int, fun _ => none)
  | 26 => (none, 40, .int, fun _ => none)
  | 27 => (none, 40, .int, fun _ => none)
  | 28 => (none, 40, .int, fun _ => none)
  | 29 => (none, 40, .int, fun _ => none)
  | 30 => (none, 40, .boolean, fun _ => none)
  | 31 => (none, 4, .int, fun _ => none)
  | 32 => (none, 20, .int, fun _ => none)
  | 33 => (none, 20, .int, fun _ => none)
  | 34 => (none, 20, .int, fun _ => none)
  | 35 => (none, 30, .int, fun _ => none)
  | 36 => (none, 30, .int, fun _ => none)
  | 37 => (none, 100, .int, fun _ => none)
  | 38 => (none, 150, .int, fun _ => none)
  | 39 => (none, 32, .int, fun _ => none)
  | 40 => (none, 32, .int, fun _ => none)
  | 41 => (none, 40, .int, fun _ => none)
  | 42 => (none, 40, .int, fun _ => none)
  | 43 => (none, 40, .int, fun _ => none)
  | 44 => (none, 40, .int, fun _ => none)
  | 45 => (none, 40, .boolean, fun _ => none)
  | 46 => (none, 40, .int, fun _ => none)
  | 47 => (none, 40, .int, fun _ => none)
  | 48 => (none, 40, .int, fun _ => none)
  | 49 => (some 11, 10, .int, fun k => match k with | 0 => some 52 | 1 => some 57 | 2 => some 63 | 3 => some 68 | 4 => some 79 | 5 => some 84 | 6 => some 90 | 7 => some 50 | 8 => some 51 | _ => none)
  | 50 => (none, 4, .int, fun _ => none)
  | 51 => (none, 7, .int, fun _ => none)
  | 52 => (some 7, 3, .int, fun k => match k with | 0 => some 53 | 1 => some 54 | _ => none)
  | 53 => (none, 10, .object "LateClaims$Port", fun _ => some 56)
  | 54 => (none, 10, .array .int, fun _ => some 55)
  | 55 => (none, 10, .int, fun _ => none)
  | 56 => (some 6, 4, .int, fun _ => none)
  | 57 => (some 10, 5, .int, fun k => match k with | 0 => some 58 | 2 => some 59 | 3 => some 60 | 4 => some 61 | _ => none)
  | 58 => (none, 40, .object "LateClaims$Leg", fun _ => some 62)
  | 59 => (none, 6, .int, fun _ => none)
  | 60 => (none, 40, .boolean, fun _ => none)
  | 61 => (none, 40, .object "LateClaims$Leg", fun _ => some 62)
  | 62 => (some 5, 15, .int, fun k => match k with | 1 => some 56 | 2 => some 56 | _ => none)
  | 63 => (some 9, 2, .int, fun k => match k with | 0 => some 64 | _ => none)
  | 64 => (none, 20, .object "LateClaims$Ticket", fun _ => some 65)
  | 65 => (some 8, 7, .int, fun k => match k with | 1 => some 62 | 2 => some 62 | 3 => some 66 | 5 => some 67 | _ => none)
  | 66 => (none, 4, .object "LateClaims$Leg", fun _ => some 62)
  | 67 => (none, 5, .int, fun _ => none)
  | 68 => (some 4, 12, .int, fun k => match k with | 0 => some 69 | 1 => some 70 | 2 => some 71 | 3 => some 72 | 4 => some 73 | 6 => some 74 | 7 => some 75 | 8 => some 76 | 9 => some 77 | 10 => some 78 | _ => none)
  | 69 => (none, 30, .int, fun _ => none)
  | 70 => (none, 30, .int, fun _ => none)
  | 71 => (none, 30, .int, fun _ => none)
  | 72 => (none, 30, .int, fun _ => none)
  | 73 => (none, 30, .int, fun _ => none)
  | 74 => (none, 40, .int, fun _ => none)
  | 75 => (none, 40, .int, fun _ => none)
  | 76 => (none, 40, .int, fun _ => none)
  | 77 => (none, 40, .int, fun _ => none)
  | 78 => (none, 40, .boolean, fun _ => none)
  | 79 => (some 0, 5, .int, fun k => match k with | 0 => some 80 | 1 => some 81 | 2 => some 82 | 3 => some 83 | _ => none)
  | 80 => (none, 4, .int, fun _ => none)
  | 81 => (none, 20, .int, fun _ => none)
  | 82 => (none, 20, .int, fun _ => none)
  | 83 => (none, 20, .int, fun _ => none)
  | 84 => (some 3, 4, .int, fun k => match k with | 0 => some 85 | 2 => some 86 | 3 => some 87 | _ => none)
  | 85 => (none, 30, .object "LateClaims$Claim", fun _ => some 88)
  | 86 => (none, 5, .int, fun _ => none)
  | 87 => (none, 32, .int, fun _ => none)
  | 88 => (some 2, 4, .int, fun k => match k with | 0 => some 65 | 2 => some 89 | _ => none)
  | 89 => (none, 5, .int, fun _ => none)
  | 90 => (some 1, 11, .int, fun k => match k with | 0 => some 91 | 1 => some 92 | 2 => some 93 | 3 => some 94 | 4 => some 95 | 5 => some 96 | 7 => some 97 | _ => none)
  | 91 => (none, 40, .int, fun _ => none)
  | 92 => (none, 40, .int, fun _ => none)
  | 93 => (none, 40, .int, fun _ => none)
  | 94 => (none, 40, .int, fun _ => none)
  | 95 => (none, 40, .boolean, fun _ => none)
  | 96 => (none, 40, .int, fun _ => none)
  | 97 => (none, 40, .int, fun _ => none)
  | _ => (some 0, 0, .int, fun _ => none)
def rg : Nat → Nat → Int × Int := fun t k => match t with
  | 0 => (match k with | 0 => (0, 4000) | 6 => (0, 40) | 20 => (0, 20) | 24 => (0, 30) | 30 => (0, 40) | 37 => (0, 20) | 41 => (0, 30) | 48 => (0, 40) | 55 => (0, 40) | _ => (-2147483648, 2147483647))
  | 1 => (0, 3)
  | 3 => (0, 9)
  | 5 => (0, 9)
  | 6 => (0, 9)
  | 9 => (0, 20000)
  | 10 => (0, 20000)
  | 11 => (0, 1)
  | 12 => (0, 30000)
  | 13 => (0, 30000)
  | 14 => (0, 5)
  | 15 => (0, 900)
  | 18 => (0, 39)
  | 19 => (0, 4)
  | 20 => (0, 1)
  | 21 => (0, 3)
  | 22 => (0, 4000)
  | 23 => (0, 9999)
  | 24 => (0, 9999)
  | 25 => (0, 9999)
  | 26 => (0, 3)
  | 27 => (0, 5)
  | 28 => (0, 4000)
  | 29 => (0, 4000)
  | 30 => (0, 1)
  | 31 => (0, 3000)
  | 35 => (0, 19)
  | 36 => (0, 4000)
  | 43 => (0, 9999)
  | 44 => (0, 9999)
  | 45 => (0, 1)
  | 46 => (0, 9999)
  | 47 => (0, 39)
  | 49 => (match k with | 9 => (0, 4000) | _ => (-2147483648, 2147483647))
  | 50 => (0, 900)
  | 56 => (match k with | 0 => (0, 9) | 1 => (0, 3) | 2 => (0, 9) | _ => (-2147483648, 2147483647))
  | 57 => (match k with | 1 => (0, 40) | _ => (-2147483648, 2147483647))
  | 60 => (0, 1)
  | 62 => (match k with | 0 => (0, 39) | 3 => (0, 5) | 4 => (0, 5) | 5 => (0, 20000) | 6 => (0, 20000) | 7 => (0, 1) | 8 => (0, 30000) | 9 => (0, 30000) | 14 => (0, 5) | _ => (-2147483648, 2147483647))
  | 63 => (match k with | 1 => (0, 20) | _ => (-2147483648, 2147483647))
  | 65 => (match k with | 0 => (0, 19) | 4 => (0, 4) | 6 => (0, 1) | _ => (-2147483648, 2147483647))
  | 68 => (match k with | 5 => (0, 30) | 11 => (0, 40) | _ => (-2147483648, 2147483647))
  | 69 => (0, 9999)
  | 70 => (0, 9999)
  | 71 => (0, 9999)
  | 72 => (0, 9999)
  | 73 => (0, 9999)
  | 78 => (0, 1)
  | 79 => (match k with | 4 => (0, 20) | _ => (-2147483648, 2147483647))
  | 80 => (0, 3000)
  | 81 => (0, 4000)
  | 82 => (0, 4000)
  | 83 => (0, 4000)
  | 84 => (match k with | 1 => (0, 30) | _ => (-2147483648, 2147483647))
  | 88 => (match k with | 1 => (0, 4000) | _ => (-2147483648, 2147483647))
  | 90 => (match k with | 6 => (0, 40) | _ => (-2147483648, 2147483647))
  | 91 => (0, 9999)
  | 92 => (0, 9999)
  | 93 => (0, 9999)
  | 94 => (0, 9999)
  | 95 => (0, 1)
  | 96 => (0, 9999)
  | _ => (-2147483648, 2147483647)
def nnl : Nat → Nat → Bool := fun t _ => match t with
  | 58 => false
  | 61 => false
  | 64 => false
  | 66 => false
  | 85 => false
  | _ => true
theorem k_0 : (pt 0).1 = some 12 ∧ (pt 0).2.1 = 60 := ⟨rfl, rfl⟩
theorem k_1 : (pt 1).1 = none ∧ (pt 1).2.1 = 10 ∧ (pt 1).2.2.1 = .int := ⟨rfl, rfl, rfl⟩
theorem k_2 : (pt 2).1 = none ∧ (pt 2).2.1 = 100 ∧ (pt 2).2.2.1 = .int := ⟨rfl, rfl, rfl⟩
theorem k_3 : (pt 3).1 = none ∧ (pt 3).2.1 = 10 ∧ (pt 3).2.2.1 = .int := ⟨rfl, rfl, rfl⟩
theorem k_4 : (pt 4).1 = none ∧ (pt 4).2.1 = 10 ∧ (pt 4).2.2.1 = .int := ⟨rfl, rfl, rfl⟩
theorem k_5 : (pt 5).1 = none ∧ (pt 5).2.1 = 40 ∧ (pt 5).2.2.1 = .int := ⟨rfl, rfl, rfl⟩
theorem k_6 : (pt 6).1 = none ∧ (pt 6).2.1 = 40 ∧ (pt 6).2.2.1 = .int := ⟨rfl, rfl, rfl⟩
theorem k_7 : (pt 7).1 = none ∧ (pt 7).2.1 = 40 ∧ (pt 7).2.2.1 = .int := ⟨rfl, rfl, rfl⟩
theorem k_8 : (pt 8).1 = none ∧ (pt 8).2.1 = 40 ∧ (pt 8).2.2.1 = .int := ⟨rfl, rfl, rfl⟩
theorem k_9 : (pt 9).1 = none ∧ (pt 9).2.1 = 40 ∧ (pt 9).2.2.1 = .int := ⟨rfl, rfl, rfl⟩
theorem k_10 : (pt 10).1 = none ∧ (pt 10).2.1 = 40 ∧ (pt 10).2.2.1 = .int := ⟨rfl, rfl, rfl⟩
theorem k_11 : (pt 11).1 = none ∧ (pt 11).2.1 = 40 ∧ (pt 11).2.2.1 = .boolean := ⟨rfl, rfl, rfl⟩
theorem k_12 : (pt 12).1 = none ∧ (pt 12).2.1 = 40 ∧ (pt 12).2.2.1 = .int := ⟨rfl, rfl, rfl⟩
theorem k_13 : (pt 13).1 = none ∧ (pt 13).2.1 = 40 ∧ (pt 13).2.2.1 = .int := ⟨rfl, rfl, rfl⟩
theorem k_14 : (pt 14).1 = none ∧ (pt 14).2.1 = 40 ∧ (pt 14).2.2.1 = .int := ⟨rfl, rfl, rfl⟩
theorem k_15 : (pt 15).1 = none ∧ (pt 15).2.1 = 4 ∧ (pt 15).2.2.1 = .int := ⟨rfl, rfl, rfl⟩
theorem k_16 : (pt 16).1 = none ∧ (pt 16).2.1 = 7 ∧ (pt 16).2.2.1 = .int := ⟨rfl, rfl, rfl⟩
theorem k_17 : (pt 17).1 = none ∧ (pt 17).2.1 = 6 ∧ (pt 17).2.2.1 = .int := ⟨rfl, rfl, rfl⟩
theorem k_18 : (pt 18).1 = none ∧ (pt 18).2.1 = 80 ∧ (pt 18).2.2.1 = .int := ⟨rfl, rfl, rfl⟩
theorem k_19 : (pt 19).1 = none ∧ (pt 19).2.1 = 20 ∧ (pt 19).2.2.1 = .int := ⟨rfl, rfl, rfl⟩
theorem k_20 : (pt 20).1 = none ∧ (pt 20).2.1 = 40 ∧ (pt 20).2.2.1 = .boolean := ⟨rfl, rfl, rfl⟩
theorem k_21 : (pt 21).1 = none ∧ (pt 21).2.1 = 30 ∧ (pt 21).2.2.1 = .int := ⟨rfl, rfl, rfl⟩
theorem k_22 : (pt 22).1 = none ∧ (pt 22).2.1 = 30 ∧ (pt 22).2.2.1 = .int := ⟨rfl, rfl, rfl⟩
theorem k_23 : (pt 23).1 = none ∧ (pt 23).2.1 = 30 ∧ (pt 23).2.2.1 = .int := ⟨rfl, rfl, rfl⟩
theorem k_24 : (pt 24).1 = none ∧ (pt 24).2.1 = 30 ∧ (pt 24).2.2.1 = .int := ⟨rfl, rfl, rfl⟩
theorem k_25 : (pt 25).1 = none ∧ (pt 25).2.1 = 30 ∧ (pt 25).2.2.1 = .int := ⟨rfl, rfl, rfl⟩
theorem k_26 : (pt 26).1 = none ∧ (pt 26).2.1 = 40 ∧ (pt 26).2.2.1 = .int := ⟨rfl, rfl, rfl⟩
theorem k_27 : (pt 27).1 = none ∧ (pt 27).2.1 = 40 ∧ (pt 27).2.2.1 = .int := ⟨rfl, rfl, rfl⟩
theorem k_28 : (pt 28).1 = none ∧ (pt 28).2.1 = 40 ∧ (pt 28).2.2.1 = .int := ⟨rfl, rfl, rfl⟩
theorem k_29 : (pt 29).1 = none ∧ (pt 29).2.1 = 40 ∧ (pt 29).2.2.1 = .int := ⟨rfl, rfl, rfl⟩
theorem k_30 : (pt 30).1 = none ∧ (pt 30).2.1 = 40 ∧ (pt 30).2.2.1 = .boolean := ⟨rfl, rfl, rfl⟩
theorem k_31 : (pt 31).1 = none ∧ (pt 31).2.1 = 4 ∧ (pt 31).2.2.1 = .int := ⟨rfl, rfl, rfl⟩
theorem k_32 : (pt 32).1 = none ∧ (pt 32).2.1 = 20 ∧ (pt 32).2.2.1 = .int := ⟨rfl, rfl, rfl⟩
theorem k_33 : (pt 33).1 = none ∧ (pt 33).2.1 = 20 ∧ (pt 33).2.2.1 = .int := ⟨rfl, rfl, rfl⟩
theorem k_34 : (pt 34).1 = none ∧ (pt 34).2.1 = 20 ∧ (pt 34).2.2.1 = .int := ⟨rfl, rfl, rfl⟩
theorem k_35 : (pt 35).1 = none ∧ (pt 35).2.1 = 30 ∧ (pt 35).2.2.1 = .int := ⟨rfl, rfl, rfl⟩
theorem k_36 : (pt 36).1 = none ∧ (pt 36).2.1 = 30 ∧ (pt 36).2.2.1 = .int := ⟨rfl, rfl, rfl⟩
theorem k_37 : (pt 37).1 = none ∧ (pt 37).2.1 = 100 ∧ (pt 37).2.2.1 = .int := ⟨rfl, rfl, rfl⟩
theorem k_38 : (pt 38).1 = none ∧ (pt 38).2.1 = 150 ∧ (pt 38).2.2.1 = .int := ⟨rfl, rfl, rfl⟩
theorem k_39 : (pt 39).1 = none ∧ (pt 39).2.1 = 32 ∧ (pt 39).2.2.1 = .int := ⟨rfl, rfl, rfl⟩
theorem k_40 : (pt 40).1 = none ∧ (pt 40).2.1 = 32 ∧ (pt 40).2.2.1 = .int := ⟨rfl, rfl, rfl⟩
theorem k_41 : (pt 41).1 = none ∧ (pt 41).2.1 = 40 ∧ (pt 41).2.2.1 = .int := ⟨rfl, rfl, rfl⟩
theorem k_42 : (pt 42).1 = none ∧ (pt 42).2.1 = 40 ∧ (pt 42).2.2.1 = .int := ⟨rfl, rfl, rfl⟩
theorem k_43 : (pt 43).1 = none ∧ (pt 43).2.1 = 40 ∧ (pt 43).2.2.1 = .int := ⟨rfl, rfl, rfl⟩
theorem k_44 : (pt 44).1 = none ∧ (pt 44).2.1 = 40 ∧ (pt 44).2.2.1 = .int := ⟨rfl, rfl, rfl⟩
theorem k_45 : (pt 45).1 = none ∧ (pt 45).2.1 = 40 ∧ (pt 45).2.2.1 = .boolean := ⟨rfl, rfl, rfl⟩
theorem k_46 : (pt 46).1 = none ∧ (pt 46).2.1 = 40 ∧ (pt 46).2.2.1 = .int := ⟨rfl, rfl, rfl⟩
theorem k_47 : (pt 47).1 = none ∧ (pt 47).2.1 = 40 ∧ (pt 47).2.2.1 = .int := ⟨rfl, rfl, rfl⟩
theorem k_48 : (pt 48).1 = none ∧ (pt 48).2.1 = 40 ∧ (pt 48).2.2.1 = .int := ⟨rfl, rfl, rfl⟩
theorem k_49 : (pt 49).1 = some 11 ∧ (pt 49).2.1 = 10 := ⟨rfl, rfl⟩
theorem k_50 : (pt 50).1 = none ∧ (pt 50).2.1 = 4 ∧ (pt 50).2.2.1 = .int := ⟨rfl, rfl, rfl⟩
theorem k_51 : (pt 51).1 = none ∧ (pt 51).2.1 = 7 ∧ (pt 51).2.2.1 = .int := ⟨rfl, rfl, rfl⟩
theorem k_52 : (pt 52).1 = some 7 ∧ (pt 52).2.1 = 3 := ⟨rfl, rfl⟩
theorem k_53 : (pt 53).1 = none ∧ (pt 53).2.1 = 10 ∧ (pt 53).2.2.1 = .object "LateClaims$Port" := ⟨rfl, rfl, rfl⟩
theorem k_54 : (pt 54).1 = none ∧ (pt 54).2.1 = 10 ∧ (pt 54).2.2.1 = .array .int := ⟨rfl, rfl, rfl⟩
theorem k_55 : (pt 55).1 = none ∧ (pt 55).2.1 = 10 ∧ (pt 55).2.2.1 = .int := ⟨rfl, rfl, rfl⟩
theorem k_56 : (pt 56).1 = some 6 ∧ (pt 56).2.1 = 4 := ⟨rfl, rfl⟩
theorem k_57 : (pt 57).1 = some 10 ∧ (pt 57).2.1 = 5 := ⟨rfl, rfl⟩
theorem k_58 : (pt 58).1 = none ∧ (pt 58).2.1 = 40 ∧ (pt 58).2.2.1 = .object "LateClaims$Leg" := ⟨rfl, rfl, rfl⟩
theorem k_59 : (pt 59).1 = none ∧ (pt 59).2.1 = 6 ∧ (pt 59).2.2.1 = .int := ⟨rfl, rfl, rfl⟩
theorem k_60 : (pt 60).1 = none ∧ (pt 60).2.1 = 40 ∧ (pt 60).2.2.1 = .boolean := ⟨rfl, rfl, rfl⟩
theorem k_61 : (pt 61).1 = none ∧ (pt 61).2.1 = 40 ∧ (pt 61).2.2.1 = .object "LateClaims$Leg" := ⟨rfl, rfl, rfl⟩
theorem k_62 : (pt 62).1 = some 5 ∧ (pt 62).2.1 = 15 := ⟨rfl, rfl⟩
theorem k_63 : (pt 63).1 = some 9 ∧ (pt 63).2.1 = 2 := ⟨rfl, rfl⟩
theorem k_64 : (pt 64).1 = none ∧ (pt 64).2.1 = 20 ∧ (pt 64).2.2.1 = .object "LateClaims$Ticket" := ⟨rfl, rfl, rfl⟩
theorem k_65 : (pt 65).1 = some 8 ∧ (pt 65).2.1 = 7 := ⟨rfl, rfl⟩
theorem k_66 : (pt 66).1 = none ∧ (pt 66).2.1 = 4 ∧ (pt 66).2.2.1 = .object "LateClaims$Leg" := ⟨rfl, rfl, rfl⟩
theorem k_67 : (pt 67).1 = none ∧ (pt 67).2.1 = 5 ∧ (pt 67).2.2.1 = .int := ⟨rfl, rfl, rfl⟩
theorem k_68 : (pt 68).1 = some 4 ∧ (pt 68).2.1 = 12 := ⟨rfl, rfl⟩
theorem k_69 : (pt 69).1 = none ∧ (pt 69).2.1 = 30 ∧ (pt 69).2.2.1 = .int := ⟨rfl, rfl, rfl⟩
theorem k_70 : (pt 70).1 = none ∧ (pt 70).2.1 = 30 ∧ (pt 70).2.2.1 = .int := ⟨rfl, rfl, rfl⟩
theorem k_71 : (pt 71).1 = none ∧ (pt 71).2.1 = 30 ∧ (pt 71).2.2.1 = .int := ⟨rfl, rfl, rfl⟩
theorem k_72 : (pt 72).1 = none ∧ (pt 72).2.1 = 30 ∧ (pt 72).2.2.1 = .int := ⟨rfl, rfl, rfl⟩
theorem k_73 : (pt 73).1 = none ∧ (pt 73).2.1 = 30 ∧ (pt 73).2.2.1 = .int := ⟨rfl, rfl, rfl⟩
theorem k_74 : (pt 74).1 = none ∧ (pt 74).2.1 = 40 ∧ (pt 74).2.2.1 = .int := ⟨rfl, rfl, rfl⟩
theorem k_75 : (pt 75).1 = none ∧ (pt 75).2.1 = 40 ∧ (pt 75).2.2.1 = .int := ⟨rfl, rfl, rfl⟩
theorem k_76 : (pt 76).1 = none ∧ (pt 76).2.1 = 40 ∧ (pt 76).2.2.1 = .int := ⟨rfl, rfl, rfl⟩
theorem k_77 : (pt 77).1 = none ∧ (pt 77).2.1 = 40 ∧ (pt 77).2.2.1 = .int := ⟨rfl, rfl, rfl⟩
theorem k_78 : (pt 78).1 = none ∧ (pt 78).2.1 = 40 ∧ (pt 78).2.2.1 = .boolean := ⟨rfl, rfl, rfl⟩
theorem k_79 : (pt 79).1 = some 0 ∧ (pt 79).2.1 = 5 := ⟨rfl, rfl⟩
theorem k_80 : (pt 80).1 = none ∧ (pt 80).2.1 = 4 ∧ (pt 80).2.2.1 = .int := ⟨rfl, rfl, rfl⟩
theorem k_81 : (pt 81).1 = none ∧ (pt 81).2.1 = 20 ∧ (pt 81).2.2.1 = .int := ⟨rfl, rfl, rfl⟩
theorem k_82 : (pt 82).1 = none ∧ (pt 82).2.1 = 20 ∧ (pt 82).2.2.1 = .int := ⟨rfl, rfl, rfl⟩
theorem k_83 : (pt 83).1 = none ∧ (pt 83).2.1 = 20 ∧ (pt 83).2.2.1 = .int := ⟨rfl, rfl, rfl⟩
theorem k_84 : (pt 84).1 = some 3 ∧ (pt 84).2.1 = 4 := ⟨rfl, rfl⟩
theorem k_85 : (pt 85).1 = none ∧ (pt 85).2.1 = 30 ∧ (pt 85).2.2.1 = .object "LateClaims$Claim" := ⟨rfl, rfl, rfl⟩
theorem k_86 : (pt 86).1 = none ∧ (pt 86).2.1 = 5 ∧ (pt 86).2.2.1 = .int := ⟨rfl, rfl, rfl⟩
theorem k_87 : (pt 87).1 = none ∧ (pt 87).2.1 = 32 ∧ (pt 87).2.2.1 = .int := ⟨rfl, rfl, rfl⟩
theorem k_88 : (pt 88).1 = some 2 ∧ (pt 88).2.1 = 4 := ⟨rfl, rfl⟩
theorem k_89 : (pt 89).1 = none ∧ (pt 89).2.1 = 5 ∧ (pt 89).2.2.1 = .int := ⟨rfl, rfl, rfl⟩
theorem k_90 : (pt 90).1 = some 1 ∧ (pt 90).2.1 = 11 := ⟨rfl, rfl⟩
theorem k_91 : (pt 91).1 = none ∧ (pt 91).2.1 = 40 ∧ (pt 91).2.2.1 = .int := ⟨rfl, rfl, rfl⟩
theorem k_92 : (pt 92).1 = none ∧ (pt 92).2.1 = 40 ∧ (pt 92).2.2.1 = .int := ⟨rfl, rfl, rfl⟩
theorem k_93 : (pt 93).1 = none ∧ (pt 93).2.1 = 40 ∧ (pt 93).2.2.1 = .int := ⟨rfl, rfl, rfl⟩
theorem k_94 : (pt 94).1 = none ∧ (pt 94).2.1 = 40 ∧ (pt 94).2.2.1 = .int := ⟨rfl, rfl, rfl⟩
theorem k_95 : (pt 95).1 = none ∧ (pt 95).2.1 = 40 ∧ (pt 95).2.2.1 = .boolean := ⟨rfl, rfl, rfl⟩
theorem k_96 : (pt 96).1 = none ∧ (pt 96).2.1 = 40 ∧ (pt 96).2.2.1 = .int := ⟨rfl, rfl, rfl⟩
theorem k_97 : (pt 97).1 = none ∧ (pt 97).2.1 = 40 ∧ (pt 97).2.2.1 = .int := ⟨rfl, rfl, rfl⟩
