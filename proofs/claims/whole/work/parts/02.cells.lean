/-! the abstract cells: model 0..22, LongStrike 23..48, the valleys now, kept, imagined at 49, 143, 237 (94 cells each); 1000.. the String constants, 2000 SORTS, 2001 FACTS -/
def kdT : List Nat := [12, 20, 20, 20, 20, 20, 20, 20, 20, 20, 20, 20, 20, 20, 20, 20, 20, 20, 20, 20, 20, 20, 20, 11, 8, 21, 5, 20, 20, 20, 20, 20, 20, 20, 20, 0, 20, 20, 20, 20, 20, 23, 20, 20, 20, 20, 20, 20, 20]
def kdV : List Nat := [9, 23, 20, 20, 20, 20, 20, 20, 24, 25, 26, 27, 10, 20, 20, 7, 20, 20, 20, 20, 20, 22, 3, 20, 20, 20, 23, 20, 20, 20, 20, 20, 20, 20, 20, 20, 2, 20, 23, 20, 20, 20, 20, 20, 20, 20, 20, 20, 20, 20, 20, 20, 4, 4, 4, 4, 6, 6, 6, 6, 1, 1, 1, 1, 1, 1, 1, 1, 1, 1, 1, 1, 1, 1, 1, 1, 5, 20, 20, 20, 20, 20, 5, 20, 20, 20, 20, 20, 5, 20, 20, 20, 20, 20]
def lnT : List Nat := [0, 912, 912, 912, 300, 8, 8, 40, 120, 120, 16, 16, 16, 16, 144, 8, 4, 4, 160, 4, 4, 4, 30, 0, 0, 300, 0, 10, 10, 10, 10, 300, 301, 301, 301, 0, 30, 8, 8, 4, 4, 4, 40, 40, 40, 40, 4, 4, 4]
def lnV : List Nat := [0, 6, 6, 6, 6, 6, 6, 6, 4, 4, 16, 3, 0, 6, 6, 0, 12, 12, 12, 12, 12, 12, 0, 4, 8, 8, 9, 16, 16, 16, 16, 16, 16, 16, 16, 16, 0, 9, 9, 4, 4, 4, 4, 4, 4, 4, 4, 4, 4, 16, 16, 16, 0, 0, 0, 0, 0, 0, 0, 0, 0, 0, 0, 0, 0, 0, 0, 0, 0, 0, 0, 0, 0, 0, 0, 0, 0, 10, 10, 10, 10, 300, 0, 10, 10, 10, 10, 300, 0, 10, 10, 10, 10, 300]
def rfT : List (List Nat) := [[1, 2, 3, 0, 4, 0, 5, 6, 0, 0, 0, 0, 0, 0, 0, 0, 0, 7, 8, 9, 10, 11, 12, 13, 14, 15, 16, 17, 18, 19, 20, 21, 22, 0, 0, 0, 0, 0, 0], [], [], [], [], [], [], [], [], [], [], [], [], [], [], [], [], [], [], [], [], [], [], [49, 143, 237, 0, 24, 35, 37, 38, 0, 0, 0, 39, 40, 41, 46, 47, 48], [25, 0, 26, 32, 33, 34, 0, 0], [], [0, 27, 28, 29, 30, 0, 31], [], [], [], [], [], [], [], [], [36, 0, 0, 0, 0, 0, 0], [], [], [], [], [], [42, 43, 44, 45], [], [], [], [], [], [], []]
def rfV : List (List Nat) := [[0, 0, 0, 0, 0, 0, 0, 1, 8, 9, 10, 11, 12, 15, 22, 36, 49, 50, 51], [2, 3, 4, 5, 6, 7], [], [], [], [], [], [], [52, 53, 54, 55], [56, 57, 58, 59], [60, 61, 62, 63, 64, 65, 66, 67, 68, 69, 70, 71, 72, 73, 74, 75], [76, 82, 88], [0, 0, 0, 13, 14], [], [], [0, 16, 17, 18, 0, 19, 20, 21, 0, 0], [], [], [], [], [], [], [0, 0, 0, 23, 24, 25, 26], [], [], [], [27, 28, 29, 30, 31, 32, 33, 34, 35], [], [], [], [], [], [], [], [], [], [0, 37, 38, 0, 0, 48], [], [39, 40, 41, 42, 43, 44, 45, 46, 47], [], [], [], [], [], [], [], [], [], [], [], [], [], [0, 0, 0, 0, 0, 0, 0], [0, 0, 0, 0, 0, 0, 0], [0, 0, 0, 0, 0, 0, 0], [0, 0, 0, 0, 0, 0, 0], [0, 0, 0], [0, 0, 0], [0, 0, 0], [0, 0, 0], [0, 0, 0, 0, 0, 0, 0, 0, 0, 0, 0, 0], [0, 0, 0, 0, 0, 0, 0, 0, 0, 0, 0, 0], [0, 0, 0, 0, 0, 0, 0, 0, 0, 0, 0, 0], [0, 0, 0, 0, 0, 0, 0, 0, 0, 0, 0, 0], [0, 0, 0, 0, 0, 0, 0, 0, 0, 0, 0, 0], [0, 0, 0, 0, 0, 0, 0, 0, 0, 0, 0, 0], [0, 0, 0, 0, 0, 0, 0, 0, 0, 0, 0, 0], [0, 0, 0, 0, 0, 0, 0, 0, 0, 0, 0, 0], [0, 0, 0, 0, 0, 0, 0, 0, 0, 0, 0, 0], [0, 0, 0, 0, 0, 0, 0, 0, 0, 0, 0, 0], [0, 0, 0, 0, 0, 0, 0, 0, 0, 0, 0, 0], [0, 0, 0, 0, 0, 0, 0, 0, 0, 0, 0, 0], [0, 0, 0, 0, 0, 0, 0, 0, 0, 0, 0, 0], [0, 0, 0, 0, 0, 0, 0, 0, 0, 0, 0, 0], [0, 0, 0, 0, 0, 0, 0, 0, 0, 0, 0, 0], [0, 0, 0, 0, 0, 0, 0, 0, 0, 0, 0, 0], [0, 77, 78, 79, 80, 0, 81], [], [], [], [], [], [0, 83, 84, 85, 86, 0, 87], [], [], [], [], [], [0, 89, 90, 91, 92, 0, 93], [], [], [], [], []]
def isT : List (List Bool) := [[true, false, false, false, false, false, false], [false, false, false, false, false, false, false, false, false, false, false, false], [false, true, true, false, false, true], [false, false, false, true, true, true, true], [false, false, false, false, false, false, false], [false, true, true, true, true, false, true], [false, false, false], [false, true, true, true, false, true, true, true, false, false], [true, false, true, true, true, true, false, false], [false, false, false, false, false, false, false, true, true, true, true, true, true, true, true, true, true, true, true], [false, false, false, true, true], [true, true, true, false, true, true, true, true, false, false, false, true, true, true, true, true, true], [true, true, true, false, true, false, true, true, false, false, false, false, false, false, false, false, false, true, true, true, true, true, true, true, true, true, true, true, true, true, true, true, true, false, false, false, false, false, false]]
def nfT : List Nat := [7, 12, 6, 7, 7, 7, 3, 10, 8, 19, 5, 17, 39]
def kd (a : Nat) : Nat := if a < 49 then kdT.getD a 99 else if a < 331 then kdV.getD ((a - 49) % 94) 99 else if a < 1000 then 99 else if a < 1019 then 50 else if a = 2000 then 51 else if a = 2001 then 51 else if a = 6000 then 60 else 99
def len (a : Nat) : Nat := if a < 49 then lnT.getD a 0 else if a < 331 then lnV.getD ((a - 49) % 94) 0 else if a = 2000 then 7 else if a = 2001 then 7 else 0
def rf (a k : Nat) : Nat := if a < 49 then (rfT.getD a []).getD k 0 else if a < 331 then 49 + 94 * ((a - 49) / 94) + (rfV.getD ((a - 49) % 94) []).getD k 0 else if a = 2000 then 1000 + k else 1007 + k
def isr (c k : Nat) : Bool := (isT.getD c []).getD k false
def nf (c : Nat) : Nat := nfT.getD c 0
theorem kd_lt {a c : Nat} (h : kd a = c) (hc : c < 50) : a < 331 := by
  unfold kd at h
  (repeat' split at h) <;> omega
theorem ty_0_0_b : ∀ a, a < 331 → kd a = 0 → kd (rf a 0) = 20 := by decide +kernel
theorem ty_0_0 {a : Nat} (h : kd a = 0) : kd (rf a 0) = 20 := ty_0_0_b a (kd_lt h (by decide)) h
theorem ty_2_1_b : ∀ a, a < 331 → kd a = 2 → kd (rf a 1) = 20 := by decide +kernel
theorem ty_2_1 {a : Nat} (h : kd a = 2) : kd (rf a 1) = 20 := ty_2_1_b a (kd_lt h (by decide)) h
theorem ty_2_2_b : ∀ a, a < 331 → kd a = 2 → kd (rf a 2) = 23 := by decide +kernel
theorem ty_2_2 {a : Nat} (h : kd a = 2) : kd (rf a 2) = 23 := ty_2_2_b a (kd_lt h (by decide)) h
theorem ty_2_5_b : ∀ a, a < 331 → kd a = 2 → kd (rf a 5) = 20 := by decide +kernel
theorem ty_2_5 {a : Nat} (h : kd a = 2) : kd (rf a 5) = 20 := ty_2_5_b a (kd_lt h (by decide)) h
theorem ty_3_3_b : ∀ a, a < 331 → kd a = 3 → kd (rf a 3) = 20 := by decide +kernel
theorem ty_3_3 {a : Nat} (h : kd a = 3) : kd (rf a 3) = 20 := ty_3_3_b a (kd_lt h (by decide)) h
theorem ty_3_4_b : ∀ a, a < 331 → kd a = 3 → kd (rf a 4) = 20 := by decide +kernel
theorem ty_3_4 {a : Nat} (h : kd a = 3) : kd (rf a 4) = 20 := ty_3_4_b a (kd_lt h (by decide)) h
theorem ty_3_5_b : ∀ a, a < 331 → kd a = 3 → kd (rf a 5) = 20 := by decide +kernel
theorem ty_3_5 {a : Nat} (h : kd a = 3) : kd (rf a 5) = 20 := ty_3_5_b a (kd_lt h (by decide)) h
theorem ty_3_6_b : ∀ a, a < 331 → kd a = 3 → kd (rf a 6) = 23 := by decide +kernel
theorem ty_3_6 {a : Nat} (h : kd a = 3) : kd (rf a 6) = 23 := ty_3_6_b a (kd_lt h (by decide)) h
theorem ty_5_1_b : ∀ a, a < 331 → kd a = 5 → kd (rf a 1) = 20 := by decide +kernel
theorem ty_5_1 {a : Nat} (h : kd a = 5) : kd (rf a 1) = 20 := ty_5_1_b a (kd_lt h (by decide)) h
theorem ty_5_2_b : ∀ a, a < 331 → kd a = 5 → kd (rf a 2) = 20 := by decide +kernel
theorem ty_5_2 {a : Nat} (h : kd a = 5) : kd (rf a 2) = 20 := ty_5_2_b a (kd_lt h (by decide)) h
theorem ty_5_3_b : ∀ a, a < 331 → kd a = 5 → kd (rf a 3) = 20 := by decide +kernel
theorem ty_5_3 {a : Nat} (h : kd a = 5) : kd (rf a 3) = 20 := ty_5_3_b a (kd_lt h (by decide)) h
theorem ty_5_4_b : ∀ a, a < 331 → kd a = 5 → kd (rf a 4) = 20 := by decide +kernel
theorem ty_5_4 {a : Nat} (h : kd a = 5) : kd (rf a 4) = 20 := ty_5_4_b a (kd_lt h (by decide)) h
theorem ty_5_6_b : ∀ a, a < 331 → kd a = 5 → kd (rf a 6) = 20 := by decide +kernel
theorem ty_5_6 {a : Nat} (h : kd a = 5) : kd (rf a 6) = 20 := ty_5_6_b a (kd_lt h (by decide)) h
theorem ty_7_1_b : ∀ a, a < 331 → kd a = 7 → kd (rf a 1) = 20 := by decide +kernel
theorem ty_7_1 {a : Nat} (h : kd a = 7) : kd (rf a 1) = 20 := ty_7_1_b a (kd_lt h (by decide)) h
theorem ty_7_2_b : ∀ a, a < 331 → kd a = 7 → kd (rf a 2) = 20 := by decide +kernel
theorem ty_7_2 {a : Nat} (h : kd a = 7) : kd (rf a 2) = 20 := ty_7_2_b a (kd_lt h (by decide)) h
theorem ty_7_3_b : ∀ a, a < 331 → kd a = 7 → kd (rf a 3) = 20 := by decide +kernel
theorem ty_7_3 {a : Nat} (h : kd a = 7) : kd (rf a 3) = 20 := ty_7_3_b a (kd_lt h (by decide)) h
theorem ty_7_5_b : ∀ a, a < 331 → kd a = 7 → kd (rf a 5) = 20 := by decide +kernel
theorem ty_7_5 {a : Nat} (h : kd a = 7) : kd (rf a 5) = 20 := ty_7_5_b a (kd_lt h (by decide)) h
theorem ty_7_6_b : ∀ a, a < 331 → kd a = 7 → kd (rf a 6) = 20 := by decide +kernel
theorem ty_7_6 {a : Nat} (h : kd a = 7) : kd (rf a 6) = 20 := ty_7_6_b a (kd_lt h (by decide)) h
theorem ty_7_7_b : ∀ a, a < 331 → kd a = 7 → kd (rf a 7) = 22 := by decide +kernel
theorem ty_7_7 {a : Nat} (h : kd a = 7) : kd (rf a 7) = 22 := ty_7_7_b a (kd_lt h (by decide)) h
theorem ty_8_0_b : ∀ a, a < 331 → kd a = 8 → kd (rf a 0) = 21 := by decide +kernel
theorem ty_8_0 {a : Nat} (h : kd a = 8) : kd (rf a 0) = 21 := ty_8_0_b a (kd_lt h (by decide)) h
theorem ty_8_2_b : ∀ a, a < 331 → kd a = 8 → kd (rf a 2) = 5 := by decide +kernel
theorem ty_8_2 {a : Nat} (h : kd a = 8) : kd (rf a 2) = 5 := ty_8_2_b a (kd_lt h (by decide)) h
theorem ty_8_3_b : ∀ a, a < 331 → kd a = 8 → kd (rf a 3) = 20 := by decide +kernel
theorem ty_8_3 {a : Nat} (h : kd a = 8) : kd (rf a 3) = 20 := ty_8_3_b a (kd_lt h (by decide)) h
theorem ty_8_4_b : ∀ a, a < 331 → kd a = 8 → kd (rf a 4) = 20 := by decide +kernel
theorem ty_8_4 {a : Nat} (h : kd a = 8) : kd (rf a 4) = 20 := ty_8_4_b a (kd_lt h (by decide)) h
theorem ty_8_5_b : ∀ a, a < 331 → kd a = 8 → kd (rf a 5) = 20 := by decide +kernel
theorem ty_8_5 {a : Nat} (h : kd a = 8) : kd (rf a 5) = 20 := ty_8_5_b a (kd_lt h (by decide)) h
theorem ty_9_7_b : ∀ a, a < 331 → kd a = 9 → kd (rf a 7) = 23 := by decide +kernel
theorem ty_9_7 {a : Nat} (h : kd a = 9) : kd (rf a 7) = 23 := ty_9_7_b a (kd_lt h (by decide)) h
theorem ty_9_8_b : ∀ a, a < 331 → kd a = 9 → kd (rf a 8) = 24 := by decide +kernel
theorem ty_9_8 {a : Nat} (h : kd a = 9) : kd (rf a 8) = 24 := ty_9_8_b a (kd_lt h (by decide)) h
theorem ty_9_9_b : ∀ a, a < 331 → kd a = 9 → kd (rf a 9) = 25 := by decide +kernel
theorem ty_9_9 {a : Nat} (h : kd a = 9) : kd (rf a 9) = 25 := ty_9_9_b a (kd_lt h (by decide)) h
theorem ty_9_10_b : ∀ a, a < 331 → kd a = 9 → kd (rf a 10) = 26 := by decide +kernel
theorem ty_9_10 {a : Nat} (h : kd a = 9) : kd (rf a 10) = 26 := ty_9_10_b a (kd_lt h (by decide)) h
theorem ty_9_11_b : ∀ a, a < 331 → kd a = 9 → kd (rf a 11) = 27 := by decide +kernel
theorem ty_9_11 {a : Nat} (h : kd a = 9) : kd (rf a 11) = 27 := ty_9_11_b a (kd_lt h (by decide)) h
theorem ty_9_12_b : ∀ a, a < 331 → kd a = 9 → kd (rf a 12) = 10 := by decide +kernel
theorem ty_9_12 {a : Nat} (h : kd a = 9) : kd (rf a 12) = 10 := ty_9_12_b a (kd_lt h (by decide)) h
theorem ty_9_13_b : ∀ a, a < 331 → kd a = 9 → kd (rf a 13) = 7 := by decide +kernel
theorem ty_9_13 {a : Nat} (h : kd a = 9) : kd (rf a 13) = 7 := ty_9_13_b a (kd_lt h (by decide)) h
theorem ty_9_14_b : ∀ a, a < 331 → kd a = 9 → kd (rf a 14) = 3 := by decide +kernel
theorem ty_9_14 {a : Nat} (h : kd a = 9) : kd (rf a 14) = 3 := ty_9_14_b a (kd_lt h (by decide)) h
theorem ty_9_15_b : ∀ a, a < 331 → kd a = 9 → kd (rf a 15) = 2 := by decide +kernel
theorem ty_9_15 {a : Nat} (h : kd a = 9) : kd (rf a 15) = 2 := ty_9_15_b a (kd_lt h (by decide)) h
theorem ty_9_16_b : ∀ a, a < 331 → kd a = 9 → kd (rf a 16) = 20 := by decide +kernel
theorem ty_9_16 {a : Nat} (h : kd a = 9) : kd (rf a 16) = 20 := ty_9_16_b a (kd_lt h (by decide)) h
theorem ty_9_17_b : ∀ a, a < 331 → kd a = 9 → kd (rf a 17) = 20 := by decide +kernel
theorem ty_9_17 {a : Nat} (h : kd a = 9) : kd (rf a 17) = 20 := ty_9_17_b a (kd_lt h (by decide)) h
theorem ty_9_18_b : ∀ a, a < 331 → kd a = 9 → kd (rf a 18) = 20 := by decide +kernel
theorem ty_9_18 {a : Nat} (h : kd a = 9) : kd (rf a 18) = 20 := ty_9_18_b a (kd_lt h (by decide)) h
theorem ty_10_3_b : ∀ a, a < 331 → kd a = 10 → kd (rf a 3) = 20 := by decide +kernel
theorem ty_10_3 {a : Nat} (h : kd a = 10) : kd (rf a 3) = 20 := ty_10_3_b a (kd_lt h (by decide)) h
theorem ty_10_4_b : ∀ a, a < 331 → kd a = 10 → kd (rf a 4) = 20 := by decide +kernel
theorem ty_10_4 {a : Nat} (h : kd a = 10) : kd (rf a 4) = 20 := ty_10_4_b a (kd_lt h (by decide)) h
theorem ty_11_0_b : ∀ a, a < 331 → kd a = 11 → kd (rf a 0) = 9 := by decide +kernel
theorem ty_11_0 {a : Nat} (h : kd a = 11) : kd (rf a 0) = 9 := ty_11_0_b a (kd_lt h (by decide)) h
theorem ty_11_1_b : ∀ a, a < 331 → kd a = 11 → kd (rf a 1) = 9 := by decide +kernel
theorem ty_11_1 {a : Nat} (h : kd a = 11) : kd (rf a 1) = 9 := ty_11_1_b a (kd_lt h (by decide)) h
theorem ty_11_2_b : ∀ a, a < 331 → kd a = 11 → kd (rf a 2) = 9 := by decide +kernel
theorem ty_11_2 {a : Nat} (h : kd a = 11) : kd (rf a 2) = 9 := ty_11_2_b a (kd_lt h (by decide)) h
theorem ty_11_4_b : ∀ a, a < 331 → kd a = 11 → kd (rf a 4) = 8 := by decide +kernel
theorem ty_11_4 {a : Nat} (h : kd a = 11) : kd (rf a 4) = 8 := ty_11_4_b a (kd_lt h (by decide)) h
theorem ty_11_5_b : ∀ a, a < 331 → kd a = 11 → kd (rf a 5) = 0 := by decide +kernel
theorem ty_11_5 {a : Nat} (h : kd a = 11) : kd (rf a 5) = 0 := ty_11_5_b a (kd_lt h (by decide)) h
theorem ty_11_6_b : ∀ a, a < 331 → kd a = 11 → kd (rf a 6) = 20 := by decide +kernel
theorem ty_11_6 {a : Nat} (h : kd a = 11) : kd (rf a 6) = 20 := ty_11_6_b a (kd_lt h (by decide)) h
theorem ty_11_7_b : ∀ a, a < 331 → kd a = 11 → kd (rf a 7) = 20 := by decide +kernel
theorem ty_11_7 {a : Nat} (h : kd a = 11) : kd (rf a 7) = 20 := ty_11_7_b a (kd_lt h (by decide)) h
theorem ty_11_11_b : ∀ a, a < 331 → kd a = 11 → kd (rf a 11) = 20 := by decide +kernel
theorem ty_11_11 {a : Nat} (h : kd a = 11) : kd (rf a 11) = 20 := ty_11_11_b a (kd_lt h (by decide)) h
theorem ty_11_12_b : ∀ a, a < 331 → kd a = 11 → kd (rf a 12) = 20 := by decide +kernel
theorem ty_11_12 {a : Nat} (h : kd a = 11) : kd (rf a 12) = 20 := ty_11_12_b a (kd_lt h (by decide)) h
theorem ty_11_13_b : ∀ a, a < 331 → kd a = 11 → kd (rf a 13) = 23 := by decide +kernel
theorem ty_11_13 {a : Nat} (h : kd a = 11) : kd (rf a 13) = 23 := ty_11_13_b a (kd_lt h (by decide)) h
theorem ty_11_14_b : ∀ a, a < 331 → kd a = 11 → kd (rf a 14) = 20 := by decide +kernel
theorem ty_11_14 {a : Nat} (h : kd a = 11) : kd (rf a 14) = 20 := ty_11_14_b a (kd_lt h (by decide)) h
theorem ty_11_15_b : ∀ a, a < 331 → kd a = 11 → kd (rf a 15) = 20 := by decide +kernel
theorem ty_11_15 {a : Nat} (h : kd a = 11) : kd (rf a 15) = 20 := ty_11_15_b a (kd_lt h (by decide)) h
theorem ty_11_16_b : ∀ a, a < 331 → kd a = 11 → kd (rf a 16) = 20 := by decide +kernel
theorem ty_11_16 {a : Nat} (h : kd a = 11) : kd (rf a 16) = 20 := ty_11_16_b a (kd_lt h (by decide)) h
theorem ty_12_0_b : ∀ a, a < 331 → kd a = 12 → kd (rf a 0) = 20 := by decide +kernel
theorem ty_12_0 {a : Nat} (h : kd a = 12) : kd (rf a 0) = 20 := ty_12_0_b a (kd_lt h (by decide)) h
theorem ty_12_1_b : ∀ a, a < 331 → kd a = 12 → kd (rf a 1) = 20 := by decide +kernel
theorem ty_12_1 {a : Nat} (h : kd a = 12) : kd (rf a 1) = 20 := ty_12_1_b a (kd_lt h (by decide)) h
theorem ty_12_2_b : ∀ a, a < 331 → kd a = 12 → kd (rf a 2) = 20 := by decide +kernel
theorem ty_12_2 {a : Nat} (h : kd a = 12) : kd (rf a 2) = 20 := ty_12_2_b a (kd_lt h (by decide)) h
theorem ty_12_4_b : ∀ a, a < 331 → kd a = 12 → kd (rf a 4) = 20 := by decide +kernel
theorem ty_12_4 {a : Nat} (h : kd a = 12) : kd (rf a 4) = 20 := ty_12_4_b a (kd_lt h (by decide)) h
theorem ty_12_6_b : ∀ a, a < 331 → kd a = 12 → kd (rf a 6) = 20 := by decide +kernel
theorem ty_12_6 {a : Nat} (h : kd a = 12) : kd (rf a 6) = 20 := ty_12_6_b a (kd_lt h (by decide)) h
theorem ty_12_7_b : ∀ a, a < 331 → kd a = 12 → kd (rf a 7) = 20 := by decide +kernel
theorem ty_12_7 {a : Nat} (h : kd a = 12) : kd (rf a 7) = 20 := ty_12_7_b a (kd_lt h (by decide)) h
theorem ty_12_17_b : ∀ a, a < 331 → kd a = 12 → kd (rf a 17) = 20 := by decide +kernel
theorem ty_12_17 {a : Nat} (h : kd a = 12) : kd (rf a 17) = 20 := ty_12_17_b a (kd_lt h (by decide)) h
theorem ty_12_18_b : ∀ a, a < 331 → kd a = 12 → kd (rf a 18) = 20 := by decide +kernel
theorem ty_12_18 {a : Nat} (h : kd a = 12) : kd (rf a 18) = 20 := ty_12_18_b a (kd_lt h (by decide)) h
theorem ty_12_19_b : ∀ a, a < 331 → kd a = 12 → kd (rf a 19) = 20 := by decide +kernel
theorem ty_12_19 {a : Nat} (h : kd a = 12) : kd (rf a 19) = 20 := ty_12_19_b a (kd_lt h (by decide)) h
theorem ty_12_20_b : ∀ a, a < 331 → kd a = 12 → kd (rf a 20) = 20 := by decide +kernel
theorem ty_12_20 {a : Nat} (h : kd a = 12) : kd (rf a 20) = 20 := ty_12_20_b a (kd_lt h (by decide)) h
theorem ty_12_21_b : ∀ a, a < 331 → kd a = 12 → kd (rf a 21) = 20 := by decide +kernel
theorem ty_12_21 {a : Nat} (h : kd a = 12) : kd (rf a 21) = 20 := ty_12_21_b a (kd_lt h (by decide)) h
theorem ty_12_22_b : ∀ a, a < 331 → kd a = 12 → kd (rf a 22) = 20 := by decide +kernel
theorem ty_12_22 {a : Nat} (h : kd a = 12) : kd (rf a 22) = 20 := ty_12_22_b a (kd_lt h (by decide)) h
theorem ty_12_23_b : ∀ a, a < 331 → kd a = 12 → kd (rf a 23) = 20 := by decide +kernel
theorem ty_12_23 {a : Nat} (h : kd a = 12) : kd (rf a 23) = 20 := ty_12_23_b a (kd_lt h (by decide)) h
theorem ty_12_24_b : ∀ a, a < 331 → kd a = 12 → kd (rf a 24) = 20 := by decide +kernel
theorem ty_12_24 {a : Nat} (h : kd a = 12) : kd (rf a 24) = 20 := ty_12_24_b a (kd_lt h (by decide)) h
theorem ty_12_25_b : ∀ a, a < 331 → kd a = 12 → kd (rf a 25) = 20 := by decide +kernel
theorem ty_12_25 {a : Nat} (h : kd a = 12) : kd (rf a 25) = 20 := ty_12_25_b a (kd_lt h (by decide)) h
theorem ty_12_26_b : ∀ a, a < 331 → kd a = 12 → kd (rf a 26) = 20 := by decide +kernel
theorem ty_12_26 {a : Nat} (h : kd a = 12) : kd (rf a 26) = 20 := ty_12_26_b a (kd_lt h (by decide)) h
theorem ty_12_27_b : ∀ a, a < 331 → kd a = 12 → kd (rf a 27) = 20 := by decide +kernel
theorem ty_12_27 {a : Nat} (h : kd a = 12) : kd (rf a 27) = 20 := ty_12_27_b a (kd_lt h (by decide)) h
theorem ty_12_28_b : ∀ a, a < 331 → kd a = 12 → kd (rf a 28) = 20 := by decide +kernel
theorem ty_12_28 {a : Nat} (h : kd a = 12) : kd (rf a 28) = 20 := ty_12_28_b a (kd_lt h (by decide)) h
theorem ty_12_29_b : ∀ a, a < 331 → kd a = 12 → kd (rf a 29) = 20 := by decide +kernel
theorem ty_12_29 {a : Nat} (h : kd a = 12) : kd (rf a 29) = 20 := ty_12_29_b a (kd_lt h (by decide)) h
theorem ty_12_30_b : ∀ a, a < 331 → kd a = 12 → kd (rf a 30) = 20 := by decide +kernel
theorem ty_12_30 {a : Nat} (h : kd a = 12) : kd (rf a 30) = 20 := ty_12_30_b a (kd_lt h (by decide)) h
theorem ty_12_31_b : ∀ a, a < 331 → kd a = 12 → kd (rf a 31) = 20 := by decide +kernel
theorem ty_12_31 {a : Nat} (h : kd a = 12) : kd (rf a 31) = 20 := ty_12_31_b a (kd_lt h (by decide)) h
theorem ty_12_32_b : ∀ a, a < 331 → kd a = 12 → kd (rf a 32) = 20 := by decide +kernel
theorem ty_12_32 {a : Nat} (h : kd a = 12) : kd (rf a 32) = 20 := ty_12_32_b a (kd_lt h (by decide)) h
theorem te_23_b : ∀ a, a < 331 → kd a = 23 → ∀ i, i < len a → kd (rf a i) = 20 := by decide +kernel
theorem te_23 {a i : Nat} (h : kd a = 23) (hi : i < len a) : kd (rf a i) = 20 := te_23_b a (kd_lt h (by decide)) h i hi
theorem te_24_b : ∀ a, a < 331 → kd a = 24 → ∀ i, i < len a → kd (rf a i) = 4 := by decide +kernel
theorem te_24 {a i : Nat} (h : kd a = 24) (hi : i < len a) : kd (rf a i) = 4 := te_24_b a (kd_lt h (by decide)) h i hi
theorem te_25_b : ∀ a, a < 331 → kd a = 25 → ∀ i, i < len a → kd (rf a i) = 6 := by decide +kernel
theorem te_25 {a i : Nat} (h : kd a = 25) (hi : i < len a) : kd (rf a i) = 6 := te_25_b a (kd_lt h (by decide)) h i hi
theorem te_26_b : ∀ a, a < 331 → kd a = 26 → ∀ i, i < len a → kd (rf a i) = 1 := by decide +kernel
theorem te_26 {a i : Nat} (h : kd a = 26) (hi : i < len a) : kd (rf a i) = 1 := te_26_b a (kd_lt h (by decide)) h i hi
theorem te_27_b : ∀ a, a < 331 → kd a = 27 → ∀ i, i < len a → kd (rf a i) = 5 := by decide +kernel
theorem te_27 {a i : Nat} (h : kd a = 27) (hi : i < len a) : kd (rf a i) = 5 := te_27_b a (kd_lt h (by decide)) h i hi
theorem nf_ok : ∀ c, c < 13 → ∃ q : vw_C, vwCl[c]? = some q ∧ q.2.2 = nf c := by
  intro c hc
  match c, hc with
  | 0, _ => exact ⟨_, rfl, rfl⟩
  | 1, _ => exact ⟨_, rfl, rfl⟩
  | 2, _ => exact ⟨_, rfl, rfl⟩
  | 3, _ => exact ⟨_, rfl, rfl⟩
  | 4, _ => exact ⟨_, rfl, rfl⟩
  | 5, _ => exact ⟨_, rfl, rfl⟩
  | 6, _ => exact ⟨_, rfl, rfl⟩
  | 7, _ => exact ⟨_, rfl, rfl⟩
  | 8, _ => exact ⟨_, rfl, rfl⟩
  | 9, _ => exact ⟨_, rfl, rfl⟩
  | 10, _ => exact ⟨_, rfl, rfl⟩
  | 11, _ => exact ⟨_, rfl, rfl⟩
  | 12, _ => exact ⟨_, rfl, rfl⟩
  | c + 13, h => omega
