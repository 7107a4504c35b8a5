/-! the law: blocks, by program -/

section
variable {sc : Nat × (Nat → Int32)} {D : Nat} {J L : Nat → Int → Int} {W : nw_W} {c sl : Nat} {Qr : nw_QR} {Qx : nw_QX}
theorem b_L_law_28 {x5 : Int} (h : ((-2147483648 ≤ (sc.1 : Int) ∧ (sc.1 : Int) < 2147483648) ∧ ((-2147483648 ≤ (sc.1 : Int) - 5 ∧ (sc.1 : Int) - 5 < 2147483648) ∧ (((sc.1 : Int) - 5 < x5 → Qr (some (.inl 1)) (J, L, W)) ∧ (x5 ≤ (sc.1 : Int) - 5 → ((0 ≤ x5 ∧ x5 < (sc.1 : Int)) ∧ ((nw_xiand (nw_sc sc x5) 63 = 0 → NW sc d_L_law D (300, [some (.inr (.inl (some 1000000))), some (.inr (.inl (some 0))), some (.inr (.inl (some 303))), some (.inr (.inl (some 314))), some (.inr (.inl (some 315))), some (.inl x5), none, none, none], [], (J, L, W), c, sl) Qr Qx) ∧ (¬ nw_xiand (nw_sc sc x5) 63 = 0 → ((nw_xiand (nw_sc sc x5) 63 = 1 → NW sc d_L_law D (356, [some (.inr (.inl (some 1000000))), some (.inr (.inl (some 0))), some (.inr (.inl (some 303))), some (.inr (.inl (some 314))), some (.inr (.inl (some 315))), some (.inl x5), none, none, none], [], (J, L, W), c, sl) Qr Qx) ∧ (¬ nw_xiand (nw_sc sc x5) 63 = 1 → ((nw_xiand (nw_sc sc x5) 63 = 2 → NW sc d_L_law D (448, [some (.inr (.inl (some 1000000))), some (.inr (.inl (some 0))), some (.inr (.inl (some 303))), some (.inr (.inl (some 314))), some (.inr (.inl (some 315))), some (.inl x5), none, none, none], [], (J, L, W), c, sl) Qr Qx) ∧ (¬ nw_xiand (nw_sc sc x5) 63 = 2 → ((nw_xiand (nw_sc sc x5) 63 = 3 → NW sc d_L_law D (504, [some (.inr (.inl (some 1000000))), some (.inr (.inl (some 0))), some (.inr (.inl (some 303))), some (.inr (.inl (some 314))), some (.inr (.inl (some 315))), some (.inl x5), none, none, none], [], (J, L, W), c, sl) Qr Qx) ∧ (¬ nw_xiand (nw_sc sc x5) 63 = 3 → ((nw_xiand (nw_sc sc x5) 63 = 4 → NW sc d_L_law D (517, [some (.inr (.inl (some 1000000))), some (.inr (.inl (some 0))), some (.inr (.inl (some 303))), some (.inr (.inl (some 314))), some (.inr (.inl (some 315))), some (.inl x5), none, none, none], [], (J, L, W), c, sl) Qr Qx) ∧ (¬ nw_xiand (nw_sc sc x5) 63 = 4 → ((nw_xiand (nw_sc sc x5) 63 = 5 → NW sc d_L_law D (530, [some (.inr (.inl (some 1000000))), some (.inr (.inl (some 0))), some (.inr (.inl (some 303))), some (.inr (.inl (some 314))), some (.inr (.inl (some 315))), some (.inl x5), none, none, none], [], (J, L, W), c, sl) Qr Qx) ∧ (¬ nw_xiand (nw_sc sc x5) 63 = 5 → ((nw_xiand (nw_sc sc x5) 63 = 6 → NW sc d_L_law D (586, [some (.inr (.inl (some 1000000))), some (.inr (.inl (some 0))), some (.inr (.inl (some 303))), some (.inr (.inl (some 314))), some (.inr (.inl (some 315))), some (.inl x5), none, none, none], [], (J, L, W), c, sl) Qr Qx) ∧ (¬ nw_xiand (nw_sc sc x5) 63 = 6 → ((nw_xiand (nw_sc sc x5) 63 = 7 → NW sc d_L_law D (654, [some (.inr (.inl (some 1000000))), some (.inr (.inl (some 0))), some (.inr (.inl (some 303))), some (.inr (.inl (some 314))), some (.inr (.inl (some 315))), some (.inl x5), none, none, none], [], (J, L, W), c, sl) Qr Qx) ∧ (¬ nw_xiand (nw_sc sc x5) 63 = 7 → ((nw_xiand (nw_sc sc x5) 63 = 8 → NW sc d_L_law D (710, [some (.inr (.inl (some 1000000))), some (.inr (.inl (some 0))), some (.inr (.inl (some 303))), some (.inr (.inl (some 314))), some (.inr (.inl (some 315))), some (.inl x5), none, none, none], [], (J, L, W), c, sl) Qr Qx) ∧ (¬ nw_xiand (nw_sc sc x5) 63 = 8 → ((nw_xiand (nw_sc sc x5) 63 = 9 → NW sc d_L_law D (778, [some (.inr (.inl (some 1000000))), some (.inr (.inl (some 0))), some (.inr (.inl (some 303))), some (.inr (.inl (some 314))), some (.inr (.inl (some 315))), some (.inl x5), none, none, none], [], (J, L, W), c, sl) Qr Qx) ∧ (¬ nw_xiand (nw_sc sc x5) 63 = 9 → ((nw_xiand (nw_sc sc x5) 63 = 10 → NW sc d_L_law D (846, [some (.inr (.inl (some 1000000))), some (.inr (.inl (some 0))), some (.inr (.inl (some 303))), some (.inr (.inl (some 314))), some (.inr (.inl (some 315))), some (.inl x5), none, none, none], [], (J, L, W), c, sl) Qr Qx) ∧ (¬ nw_xiand (nw_sc sc x5) 63 = 10 → ((nw_xiand (nw_sc sc x5) 63 = 11 → NW sc d_L_law D (890, [some (.inr (.inl (some 1000000))), some (.inr (.inl (some 0))), some (.inr (.inl (some 303))), some (.inr (.inl (some 314))), some (.inr (.inl (some 315))), some (.inl x5), none, none, none], [], (J, L, W), c, sl) Qr Qx) ∧ (¬ nw_xiand (nw_sc sc x5) 63 = 11 → ((nw_xiand (nw_sc sc x5) 63 = 12 → NW sc d_L_law D (934, [some (.inr (.inl (some 1000000))), some (.inr (.inl (some 0))), some (.inr (.inl (some 303))), some (.inr (.inl (some 314))), some (.inr (.inl (some 315))), some (.inl x5), none, none, none], [], (J, L, W), c, sl) Qr Qx) ∧ (¬ nw_xiand (nw_sc sc x5) 63 = 12 → ((nw_xiand (nw_sc sc x5) 63 = 13 → NW sc d_L_law D (1014, [some (.inr (.inl (some 1000000))), some (.inr (.inl (some 0))), some (.inr (.inl (some 303))), some (.inr (.inl (some 314))), some (.inr (.inl (some 315))), some (.inl x5), none, none, none], [], (J, L, W), c, sl) Qr Qx) ∧ (¬ nw_xiand (nw_sc sc x5) 63 = 13 → ((nw_xiand (nw_sc sc x5) 63 = 14 → NW sc d_L_law D (1082, [some (.inr (.inl (some 1000000))), some (.inr (.inl (some 0))), some (.inr (.inl (some 303))), some (.inr (.inl (some 314))), some (.inr (.inl (some 315))), some (.inl x5), none, none, none], [], (J, L, W), c, sl) Qr Qx) ∧ (¬ nw_xiand (nw_sc sc x5) 63 = 14 → ((nw_xiand (nw_sc sc x5) 63 = 15 → NW sc d_L_law D (1145, [some (.inr (.inl (some 1000000))), some (.inr (.inl (some 0))), some (.inr (.inl (some 303))), some (.inr (.inl (some 314))), some (.inr (.inl (some 315))), some (.inl x5), none, none, none], [], (J, L, W), c, sl) Qr Qx) ∧ (¬ nw_xiand (nw_sc sc x5) 63 = 15 → ((nw_xiand (nw_sc sc x5) 63 = 16 → NW sc d_L_law D (1201, [some (.inr (.inl (some 1000000))), some (.inr (.inl (some 0))), some (.inr (.inl (some 303))), some (.inr (.inl (some 314))), some (.inr (.inl (some 315))), some (.inl x5), none, none, none], [], (J, L, W), c, sl) Qr Qx) ∧ (¬ nw_xiand (nw_sc sc x5) 63 = 16 → ((nw_xiand (nw_sc sc x5) 63 = 17 → NW sc d_L_law D (1257, [some (.inr (.inl (some 1000000))), some (.inr (.inl (some 0))), some (.inr (.inl (some 303))), some (.inr (.inl (some 314))), some (.inr (.inl (some 315))), some (.inl x5), none, none, none], [], (J, L, W), c, sl) Qr Qx) ∧ (¬ nw_xiand (nw_sc sc x5) 63 = 17 → ((nw_xiand (nw_sc sc x5) 63 = 18 → NW sc d_L_law D (1313, [some (.inr (.inl (some 1000000))), some (.inr (.inl (some 0))), some (.inr (.inl (some 303))), some (.inr (.inl (some 314))), some (.inr (.inl (some 315))), some (.inl x5), none, none, none], [], (J, L, W), c, sl) Qr Qx) ∧ (¬ nw_xiand (nw_sc sc x5) 63 = 18 → ((nw_xiand (nw_sc sc x5) 63 = 19 → NW sc d_L_law D (1376, [some (.inr (.inl (some 1000000))), some (.inr (.inl (some 0))), some (.inr (.inl (some 303))), some (.inr (.inl (some 314))), some (.inr (.inl (some 315))), some (.inl x5), none, none, none], [], (J, L, W), c, sl) Qr Qx) ∧ (¬ nw_xiand (nw_sc sc x5) 63 = 19 → ((nw_xiand (nw_sc sc x5) 63 = 20 → NW sc d_L_law D (1432, [some (.inr (.inl (some 1000000))), some (.inr (.inl (some 0))), some (.inr (.inl (some 303))), some (.inr (.inl (some 314))), some (.inr (.inl (some 315))), some (.inl x5), none, none, none], [], (J, L, W), c, sl) Qr Qx) ∧ (¬ nw_xiand (nw_sc sc x5) 63 = 20 → ((nw_xiand (nw_sc sc x5) 63 = 21 → NW sc d_L_law D (1500, [some (.inr (.inl (some 1000000))), some (.inr (.inl (some 0))), some (.inr (.inl (some 303))), some (.inr (.inl (some 314))), some (.inr (.inl (some 315))), some (.inl x5), none, none, none], [], (J, L, W), c, sl) Qr Qx) ∧ (¬ nw_xiand (nw_sc sc x5) 63 = 21 → ((nw_xiand (nw_sc sc x5) 63 = 22 → NW sc d_L_law D (1568, [some (.inr (.inl (some 1000000))), some (.inr (.inl (some 0))), some (.inr (.inl (some 303))), some (.inr (.inl (some 314))), some (.inr (.inl (some 315))), some (.inl x5), none, none, none], [], (J, L, W), c, sl) Qr Qx) ∧ (¬ nw_xiand (nw_sc sc x5) 63 = 22 → ((nw_xiand (nw_sc sc x5) 63 = 23 → NW sc d_L_law D (1660, [some (.inr (.inl (some 1000000))), some (.inr (.inl (some 0))), some (.inr (.inl (some 303))), some (.inr (.inl (some 314))), some (.inr (.inl (some 315))), some (.inl x5), none, none, none], [], (J, L, W), c, sl) Qr Qx) ∧ (¬ nw_xiand (nw_sc sc x5) 63 = 23 → ((nw_xiand (nw_sc sc x5) 63 = 24 → NW sc d_L_law D (1728, [some (.inr (.inl (some 1000000))), some (.inr (.inl (some 0))), some (.inr (.inl (some 303))), some (.inr (.inl (some 314))), some (.inr (.inl (some 315))), some (.inl x5), none, none, none], [], (J, L, W), c, sl) Qr Qx) ∧ (¬ nw_xiand (nw_sc sc x5) 63 = 24 → ((nw_xiand (nw_sc sc x5) 63 = 25 → NW sc d_L_law D (1784, [some (.inr (.inl (some 1000000))), some (.inr (.inl (some 0))), some (.inr (.inl (some 303))), some (.inr (.inl (some 314))), some (.inr (.inl (some 315))), some (.inl x5), none, none, none], [], (J, L, W), c, sl) Qr Qx) ∧ (¬ nw_xiand (nw_sc sc x5) 63 = 25 → ((nw_xiand (nw_sc sc x5) 63 = 26 → NW sc d_L_law D (1840, [some (.inr (.inl (some 1000000))), some (.inr (.inl (some 0))), some (.inr (.inl (some 303))), some (.inr (.inl (some 314))), some (.inr (.inl (some 315))), some (.inl x5), none, none, none], [], (J, L, W), c, sl) Qr Qx) ∧ (¬ nw_xiand (nw_sc sc x5) 63 = 26 → ((nw_xiand (nw_sc sc x5) 63 = 27 → NW sc d_L_law D (1896, [some (.inr (.inl (some 1000000))), some (.inr (.inl (some 0))), some (.inr (.inl (some 303))), some (.inr (.inl (some 314))), some (.inr (.inl (some 315))), some (.inl x5), none, none, none], [], (J, L, W), c, sl) Qr Qx) ∧ (¬ nw_xiand (nw_sc sc x5) 63 = 27 → ((nw_xiand (nw_sc sc x5) 63 = 28 → NW sc d_L_law D (1952, [some (.inr (.inl (some 1000000))), some (.inr (.inl (some 0))), some (.inr (.inl (some 303))), some (.inr (.inl (some 314))), some (.inr (.inl (some 315))), some (.inl x5), none, none, none], [], (J, L, W), c, sl) Qr Qx) ∧ (¬ nw_xiand (nw_sc sc x5) 63 = 28 → ((nw_xiand (nw_sc sc x5) 63 = 29 → NW sc d_L_law D (2008, [some (.inr (.inl (some 1000000))), some (.inr (.inl (some 0))), some (.inr (.inl (some 303))), some (.inr (.inl (some 314))), some (.inr (.inl (some 315))), some (.inl x5), none, none, none], [], (J, L, W), c, sl) Qr Qx) ∧ (¬ nw_xiand (nw_sc sc x5) 63 = 29 → ((nw_xiand (nw_sc sc x5) 63 = 30 → NW sc d_L_law D (2021, [some (.inr (.inl (some 1000000))), some (.inr (.inl (some 0))), some (.inr (.inl (some 303))), some (.inr (.inl (some 314))), some (.inr (.inl (some 315))), some (.inl x5), none, none, none], [], (J, L, W), c, sl) Qr Qx) ∧ (¬ nw_xiand (nw_sc sc x5) 63 = 30 → ((nw_xiand (nw_sc sc x5) 63 = 31 → NW sc d_L_law D (2077, [some (.inr (.inl (some 1000000))), some (.inr (.inl (some 0))), some (.inr (.inl (some 303))), some (.inr (.inl (some 314))), some (.inr (.inl (some 315))), some (.inl x5), none, none, none], [], (J, L, W), c, sl) Qr Qx) ∧ (¬ nw_xiand (nw_sc sc x5) 63 = 31 → ((nw_xiand (nw_sc sc x5) 63 = 32 → NW sc d_L_law D (2133, [some (.inr (.inl (some 1000000))), some (.inr (.inl (some 0))), some (.inr (.inl (some 303))), some (.inr (.inl (some 314))), some (.inr (.inl (some 315))), some (.inl x5), none, none, none], [], (J, L, W), c, sl) Qr Qx) ∧ (¬ nw_xiand (nw_sc sc x5) 63 = 32 → ((nw_xiand (nw_sc sc x5) 63 = 33 → NW sc d_L_law D (2189, [some (.inr (.inl (some 1000000))), some (.inr (.inl (some 0))), some (.inr (.inl (some 303))), some (.inr (.inl (some 314))), some (.inr (.inl (some 315))), some (.inl x5), none, none, none], [], (J, L, W), c, sl) Qr Qx) ∧ (¬ nw_xiand (nw_sc sc x5) 63 = 33 → ((nw_xiand (nw_sc sc x5) 63 = 34 → NW sc d_L_law D (2245, [some (.inr (.inl (some 1000000))), some (.inr (.inl (some 0))), some (.inr (.inl (some 303))), some (.inr (.inl (some 314))), some (.inr (.inl (some 315))), some (.inl x5), none, none, none], [], (J, L, W), c, sl) Qr Qx) ∧ (¬ nw_xiand (nw_sc sc x5) 63 = 34 → ((nw_xiand (nw_sc sc x5) 63 = 35 → NW sc d_L_law D (2301, [some (.inr (.inl (some 1000000))), some (.inr (.inl (some 0))), some (.inr (.inl (some 303))), some (.inr (.inl (some 314))), some (.inr (.inl (some 315))), some (.inl x5), none, none, none], [], (J, L, W), c, sl) Qr Qx) ∧ (¬ nw_xiand (nw_sc sc x5) 63 = 35 → ((nw_xiand (nw_sc sc x5) 63 = 36 → NW sc d_L_law D (2357, [some (.inr (.inl (some 1000000))), some (.inr (.inl (some 0))), some (.inr (.inl (some 303))), some (.inr (.inl (some 314))), some (.inr (.inl (some 315))), some (.inl x5), none, none, none], [], (J, L, W), c, sl) Qr Qx) ∧ (¬ nw_xiand (nw_sc sc x5) 63 = 36 → ((nw_xiand (nw_sc sc x5) 63 = 37 → NW sc d_L_law D (2382, [some (.inr (.inl (some 1000000))), some (.inr (.inl (some 0))), some (.inr (.inl (some 303))), some (.inr (.inl (some 314))), some (.inr (.inl (some 315))), some (.inl x5), none, none, none], [], (J, L, W), c, sl) Qr Qx) ∧ (¬ nw_xiand (nw_sc sc x5) 63 = 37 → ((nw_xiand (nw_sc sc x5) 63 = 38 → NW sc d_L_law D (2407, [some (.inr (.inl (some 1000000))), some (.inr (.inl (some 0))), some (.inr (.inl (some 303))), some (.inr (.inl (some 314))), some (.inr (.inl (some 315))), some (.inl x5), none, none, none], [], (J, L, W), c, sl) Qr Qx) ∧ (¬ nw_xiand (nw_sc sc x5) 63 = 38 → ((nw_xiand (nw_sc sc x5) 63 = 39 → NW sc d_L_law D (2463, [some (.inr (.inl (some 1000000))), some (.inr (.inl (some 0))), some (.inr (.inl (some 303))), some (.inr (.inl (some 314))), some (.inr (.inl (some 315))), some (.inl x5), none, none, none], [], (J, L, W), c, sl) Qr Qx) ∧ (¬ nw_xiand (nw_sc sc x5) 63 = 39 → ((nw_xiand (nw_sc sc x5) 63 = 40 → NW sc d_L_law D (2476, [some (.inr (.inl (some 1000000))), some (.inr (.inl (some 0))), some (.inr (.inl (some 303))), some (.inr (.inl (some 314))), some (.inr (.inl (some 315))), some (.inl x5), none, none, none], [], (J, L, W), c, sl) Qr Qx) ∧ (¬ nw_xiand (nw_sc sc x5) 63 = 40 → ((nw_xiand (nw_sc sc x5) 63 = 41 → NW sc d_L_law D (2520, [some (.inr (.inl (some 1000000))), some (.inr (.inl (some 0))), some (.inr (.inl (some 303))), some (.inr (.inl (some 314))), some (.inr (.inl (some 315))), some (.inl x5), none, none, none], [], (J, L, W), c, sl) Qr Qx) ∧ (¬ nw_xiand (nw_sc sc x5) 63 = 41 → ((nw_xiand (nw_sc sc x5) 63 = 42 → NW sc d_L_law D (2533, [some (.inr (.inl (some 1000000))), some (.inr (.inl (some 0))), some (.inr (.inl (some 303))), some (.inr (.inl (some 314))), some (.inr (.inl (some 315))), some (.inl x5), none, none, none], [], (J, L, W), c, sl) Qr Qx) ∧ (¬ nw_xiand (nw_sc sc x5) 63 = 42 → ((nw_xiand (nw_sc sc x5) 63 = 43 → NW sc d_L_law D (2589, [some (.inr (.inl (some 1000000))), some (.inr (.inl (some 0))), some (.inr (.inl (some 303))), some (.inr (.inl (some 314))), some (.inr (.inl (some 315))), some (.inl x5), none, none, none], [], (J, L, W), c, sl) Qr Qx) ∧ (¬ nw_xiand (nw_sc sc x5) 63 = 43 → ((nw_xiand (nw_sc sc x5) 63 = 44 → NW sc d_L_law D (2645, [some (.inr (.inl (some 1000000))), some (.inr (.inl (some 0))), some (.inr (.inl (some 303))), some (.inr (.inl (some 314))), some (.inr (.inl (some 315))), some (.inl x5), none, none, none], [], (J, L, W), c, sl) Qr Qx) ∧ (¬ nw_xiand (nw_sc sc x5) 63 = 44 → ((nw_xiand (nw_sc sc x5) 63 = 45 → NW sc d_L_law D (2701, [some (.inr (.inl (some 1000000))), some (.inr (.inl (some 0))), some (.inr (.inl (some 303))), some (.inr (.inl (some 314))), some (.inr (.inl (some 315))), some (.inl x5), none, none, none], [], (J, L, W), c, sl) Qr Qx) ∧ (¬ nw_xiand (nw_sc sc x5) 63 = 45 → ((nw_xiand (nw_sc sc x5) 63 = 46 → NW sc d_L_law D (2714, [some (.inr (.inl (some 1000000))), some (.inr (.inl (some 0))), some (.inr (.inl (some 303))), some (.inr (.inl (some 314))), some (.inr (.inl (some 315))), some (.inl x5), none, none, none], [], (J, L, W), c, sl) Qr Qx) ∧ (¬ nw_xiand (nw_sc sc x5) 63 = 46 → ((nw_xiand (nw_sc sc x5) 63 = 47 → NW sc d_L_law D (2728, [some (.inr (.inl (some 1000000))), some (.inr (.inl (some 0))), some (.inr (.inl (some 303))), some (.inr (.inl (some 314))), some (.inr (.inl (some 315))), some (.inl x5), none, none, none], [], (J, L, W), c, sl) Qr Qx) ∧ (¬ nw_xiand (nw_sc sc x5) 63 = 47 → ((nw_xiand (nw_sc sc x5) 63 = 48 → NW sc d_L_law D (2741, [some (.inr (.inl (some 1000000))), some (.inr (.inl (some 0))), some (.inr (.inl (some 303))), some (.inr (.inl (some 314))), some (.inr (.inl (some 315))), some (.inl x5), none, none, none], [], (J, L, W), c, sl) Qr Qx) ∧ (¬ nw_xiand (nw_sc sc x5) 63 = 48 → ((nw_xiand (nw_sc sc x5) 63 = 49 → NW sc d_L_law D (2799, [some (.inr (.inl (some 1000000))), some (.inr (.inl (some 0))), some (.inr (.inl (some 303))), some (.inr (.inl (some 314))), some (.inr (.inl (some 315))), some (.inl x5), none, none, none], [], (J, L, W), c, sl) Qr Qx) ∧ (¬ nw_xiand (nw_sc sc x5) 63 = 49 → ((nw_xiand (nw_sc sc x5) 63 = 50 → NW sc d_L_law D (2843, [some (.inr (.inl (some 1000000))), some (.inr (.inl (some 0))), some (.inr (.inl (some 303))), some (.inr (.inl (some 314))), some (.inr (.inl (some 315))), some (.inl x5), none, none, none], [], (J, L, W), c, sl) Qr Qx) ∧ (¬ nw_xiand (nw_sc sc x5) 63 = 50 → ((nw_xiand (nw_sc sc x5) 63 = 51 → NW sc d_L_law D (2887, [some (.inr (.inl (some 1000000))), some (.inr (.inl (some 0))), some (.inr (.inl (some 303))), some (.inr (.inl (some 314))), some (.inr (.inl (some 315))), some (.inl x5), none, none, none], [], (J, L, W), c, sl) Qr Qx) ∧ (¬ nw_xiand (nw_sc sc x5) 63 = 51 → ((nw_xiand (nw_sc sc x5) 63 = 52 → NW sc d_L_law D (2931, [some (.inr (.inl (some 1000000))), some (.inr (.inl (some 0))), some (.inr (.inl (some 303))), some (.inr (.inl (some 314))), some (.inr (.inl (some 315))), some (.inl x5), none, none, none], [], (J, L, W), c, sl) Qr Qx) ∧ (¬ nw_xiand (nw_sc sc x5) 63 = 52 → ((nw_xiand (nw_sc sc x5) 63 = 53 → NW sc d_L_law D (2987, [some (.inr (.inl (some 1000000))), some (.inr (.inl (some 0))), some (.inr (.inl (some 303))), some (.inr (.inl (some 314))), some (.inr (.inl (some 315))), some (.inl x5), none, none, none], [], (J, L, W), c, sl) Qr Qx) ∧ (¬ nw_xiand (nw_sc sc x5) 63 = 53 → ((nw_xiand (nw_sc sc x5) 63 = 54 → NW sc d_L_law D (3043, [some (.inr (.inl (some 1000000))), some (.inr (.inl (some 0))), some (.inr (.inl (some 303))), some (.inr (.inl (some 314))), some (.inr (.inl (some 315))), some (.inl x5), none, none, none], [], (J, L, W), c, sl) Qr Qx) ∧ (¬ nw_xiand (nw_sc sc x5) 63 = 54 → ((nw_xiand (nw_sc sc x5) 63 = 55 → NW sc d_L_law D (3108, [some (.inr (.inl (some 1000000))), some (.inr (.inl (some 0))), some (.inr (.inl (some 303))), some (.inr (.inl (some 314))), some (.inr (.inl (some 315))), some (.inl x5), none, none, none], [], (J, L, W), c, sl) Qr Qx) ∧ (¬ nw_xiand (nw_sc sc x5) 63 = 55 → ((nw_xiand (nw_sc sc x5) 63 = 56 → NW sc d_L_law D (3186, [some (.inr (.inl (some 1000000))), some (.inr (.inl (some 0))), some (.inr (.inl (some 303))), some (.inr (.inl (some 314))), some (.inr (.inl (some 315))), some (.inl x5), none, none, none], [], (J, L, W), c, sl) Qr Qx) ∧ (¬ nw_xiand (nw_sc sc x5) 63 = 56 → ((nw_xiand (nw_sc sc x5) 63 = 57 → NW sc d_L_law D (3199, [some (.inr (.inl (some 1000000))), some (.inr (.inl (some 0))), some (.inr (.inl (some 303))), some (.inr (.inl (some 314))), some (.inr (.inl (some 315))), some (.inl x5), none, none, none], [], (J, L, W), c, sl) Qr Qx) ∧ (¬ nw_xiand (nw_sc sc x5) 63 = 57 → ((nw_xiand (nw_sc sc x5) 63 = 58 → NW sc d_L_law D (3243, [some (.inr (.inl (some 1000000))), some (.inr (.inl (some 0))), some (.inr (.inl (some 303))), some (.inr (.inl (some 314))), some (.inr (.inl (some 315))), some (.inl x5), none, none, none], [], (J, L, W), c, sl) Qr Qx) ∧ (¬ nw_xiand (nw_sc sc x5) 63 = 58 → ((nw_xiand (nw_sc sc x5) 63 = 59 → NW sc d_L_law D (3256, [some (.inr (.inl (some 1000000))), some (.inr (.inl (some 0))), some (.inr (.inl (some 303))), some (.inr (.inl (some 314))), some (.inr (.inl (some 315))), some (.inl x5), none, none, none], [], (J, L, W), c, sl) Qr Qx) ∧ (¬ nw_xiand (nw_sc sc x5) 63 = 59 → NW sc d_L_law D (3300, [some (.inr (.inl (some 1000000))), some (.inr (.inl (some 0))), some (.inr (.inl (some 303))), some (.inr (.inl (some 314))), some (.inr (.inl (some 315))), some (.inl x5), none, none, none], [], (J, L, W), c, sl) Qr Qx)))))))))))))))))))))))))))))))))))))))))))))))))))))))))))))))))))))))))))))))))))))))))))))))))))))))))))))))))))))))))))))) :
    NW sc d_L_law D (28, [some (.inr (.inl (some 1000000))), some (.inr (.inl (some 0))), some (.inr (.inl (some 303))), some (.inr (.inl (some 314))), some (.inr (.inl (some 315))), some (.inl x5), none, none, none], [], (J, L, W), c, sl) Qr Qx := by
  refine nw_iload l_L_law_28 30 rfl rfl ?_
  refine nw_aload_n l_L_law_30 31 rfl rfl ?_
  have o1 := h.1
  replace h := h.2
  refine nw_slen l_L_law_31 32 rfl o1 ?_
  refine nw_iconst (len := 0) l_L_law_32 33 rfl c_5 ?_
  have o2 := h.1
  replace h := h.2
  refine nw_isub l_L_law_33 34 rfl o2 ?_
  refine nw_ic_gt l_L_law_34 37 rfl (fun q3 => ?_) (fun q3 => ?_)
  · replace h := h.1 q3
    refine nw_iconst (len := 0) l_L_law_3306 3307 rfl c_1 ?_
    refine nw_ireturnZ l_L_law_3307 rfl (Or.inr rfl) ?_
    exact h
  · replace h := h.2 q3
    refine nw_aload_n l_L_law_37 38 rfl rfl ?_
    refine nw_iload l_L_law_38 40 rfl rfl ?_
    have o4 := h.1
    replace h := h.2
    refine nw_sald l_L_law_40 41 rfl o4 ?_
    refine nw_bipush (len := 0) l_L_law_41 43 rfl c_63 ?_
    refine nw_iand l_L_law_43 44 rfl ?_
    by_cases q5 : nw_xiand (nw_sc sc x5) 63 = 0
    · refine nw_tsIn l_L_law_44 300 ⟨by omega, by omega, by rw [q5]; rfl⟩ ?_
      replace h := h.1 q5
      exact h
    replace h := h.2 q5
    by_cases q6 : nw_xiand (nw_sc sc x5) 63 = 1
    · refine nw_tsIn l_L_law_44 356 ⟨by omega, by omega, by rw [q6]; rfl⟩ ?_
      replace h := h.1 q6
      exact h
    replace h := h.2 q6
    by_cases q7 : nw_xiand (nw_sc sc x5) 63 = 2
    · refine nw_tsIn l_L_law_44 448 ⟨by omega, by omega, by rw [q7]; rfl⟩ ?_
      replace h := h.1 q7
      exact h
    replace h := h.2 q7
    by_cases q8 : nw_xiand (nw_sc sc x5) 63 = 3
    · refine nw_tsIn l_L_law_44 504 ⟨by omega, by omega, by rw [q8]; rfl⟩ ?_
      replace h := h.1 q8
      exact h
    replace h := h.2 q8
    by_cases q9 : nw_xiand (nw_sc sc x5) 63 = 4
    · refine nw_tsIn l_L_law_44 517 ⟨by omega, by omega, by rw [q9]; rfl⟩ ?_
      replace h := h.1 q9
      exact h
    replace h := h.2 q9
    by_cases q10 : nw_xiand (nw_sc sc x5) 63 = 5
    · refine nw_tsIn l_L_law_44 530 ⟨by omega, by omega, by rw [q10]; rfl⟩ ?_
      replace h := h.1 q10
      exact h
    replace h := h.2 q10
    by_cases q11 : nw_xiand (nw_sc sc x5) 63 = 6
    · refine nw_tsIn l_L_law_44 586 ⟨by omega, by omega, by rw [q11]; rfl⟩ ?_
      replace h := h.1 q11
      exact h
    replace h := h.2 q11
    by_cases q12 : nw_xiand (nw_sc sc x5) 63 = 7
    · refine nw_tsIn l_L_law_44 654 ⟨by omega, by omega, by rw [q12]; rfl⟩ ?_
      replace h := h.1 q12
      exact h
    replace h := h.2 q12
    by_cases q13 : nw_xiand (nw_sc sc x5) 63 = 8
    · refine nw_tsIn l_L_law_44 710 ⟨by omega, by omega, by rw [q13]; rfl⟩ ?_
      replace h := h.1 q13
      exact h
    replace h := h.2 q13
    by_cases q14 : nw_xiand (nw_sc sc x5) 63 = 9
    · refine nw_tsIn l_L_law_44 778 ⟨by omega, by omega, by rw [q14]; rfl⟩ ?_
      replace h := h.1 q14
      exact h
    replace h := h.2 q14
    by_cases q15 : nw_xiand (nw_sc sc x5) 63 = 10
    · refine nw_tsIn l_L_law_44 846 ⟨by omega, by omega, by rw [q15]; rfl⟩ ?_
      replace h := h.1 q15
      exact h
    replace h := h.2 q15
    by_cases q16 : nw_xiand (nw_sc sc x5) 63 = 11
    · refine nw_tsIn l_L_law_44 890 ⟨by omega, by omega, by rw [q16]; rfl⟩ ?_
      replace h := h.1 q16
      exact h
    replace h := h.2 q16
    by_cases q17 : nw_xiand (nw_sc sc x5) 63 = 12
    · refine nw_tsIn l_L_law_44 934 ⟨by omega, by omega, by rw [q17]; rfl⟩ ?_
      replace h := h.1 q17
      exact h
    replace h := h.2 q17
    by_cases q18 : nw_xiand (nw_sc sc x5) 63 = 13
    · refine nw_tsIn l_L_law_44 1014 ⟨by omega, by omega, by rw [q18]; rfl⟩ ?_
      replace h := h.1 q18
      exact h
    replace h := h.2 q18
    by_cases q19 : nw_xiand (nw_sc sc x5) 63 = 14
    · refine nw_tsIn l_L_law_44 1082 ⟨by omega, by omega, by rw [q19]; rfl⟩ ?_
      replace h := h.1 q19
      exact h
    replace h := h.2 q19
    by_cases q20 : nw_xiand (nw_sc sc x5) 63 = 15
    · refine nw_tsIn l_L_law_44 1145 ⟨by omega, by omega, by rw [q20]; rfl⟩ ?_
      replace h := h.1 q20
      exact h
    replace h := h.2 q20
    by_cases q21 : nw_xiand (nw_sc sc x5) 63 = 16
    · refine nw_tsIn l_L_law_44 1201 ⟨by omega, by omega, by rw [q21]; rfl⟩ ?_
      replace h := h.1 q21
      exact h
    replace h := h.2 q21
    by_cases q22 : nw_xiand (nw_sc sc x5) 63 = 17
    · refine nw_tsIn l_L_law_44 1257 ⟨by omega, by omega, by rw [q22]; rfl⟩ ?_
      replace h := h.1 q22
      exact h
    replace h := h.2 q22
    by_cases q23 : nw_xiand (nw_sc sc x5) 63 = 18
    · refine nw_tsIn l_L_law_44 1313 ⟨by omega, by omega, by rw [q23]; rfl⟩ ?_
      replace h := h.1 q23
      exact h
    replace h := h.2 q23
    by_cases q24 : nw_xiand (nw_sc sc x5) 63 = 19
    · refine nw_tsIn l_L_law_44 1376 ⟨by omega, by omega, by rw [q24]; rfl⟩ ?_
      replace h := h.1 q24
      exact h
    replace h := h.2 q24
    by_cases q25 : nw_xiand (nw_sc sc x5) 63 = 20
    · refine nw_tsIn l_L_law_44 1432 ⟨by omega, by omega, by rw [q25]; rfl⟩ ?_
      replace h := h.1 q25
      exact h
    replace h := h.2 q25
    by_cases q26 : nw_xiand (nw_sc sc x5) 63 = 21
    · refine nw_tsIn l_L_law_44 1500 ⟨by omega, by omega, by rw [q26]; rfl⟩ ?_
      replace h := h.1 q26
      exact h
    replace h := h.2 q26
    by_cases q27 : nw_xiand (nw_sc sc x5) 63 = 22
    · refine nw_tsIn l_L_law_44 1568 ⟨by omega, by omega, by rw [q27]; rfl⟩ ?_
      replace h := h.1 q27
      exact h
    replace h := h.2 q27
    by_cases q28 : nw_xiand (nw_sc sc x5) 63 = 23
    · refine nw_tsIn l_L_law_44 1660 ⟨by omega, by omega, by rw [q28]; rfl⟩ ?_
      replace h := h.1 q28
      exact h
    replace h := h.2 q28
    by_cases q29 : nw_xiand (nw_sc sc x5) 63 = 24
    · refine nw_tsIn l_L_law_44 1728 ⟨by omega, by omega, by rw [q29]; rfl⟩ ?_
      replace h := h.1 q29
      exact h
    replace h := h.2 q29
    by_cases q30 : nw_xiand (nw_sc sc x5) 63 = 25
    · refine nw_tsIn l_L_law_44 1784 ⟨by omega, by omega, by rw [q30]; rfl⟩ ?_
      replace h := h.1 q30
      exact h
    replace h := h.2 q30
    by_cases q31 : nw_xiand (nw_sc sc x5) 63 = 26
    · refine nw_tsIn l_L_law_44 1840 ⟨by omega, by omega, by rw [q31]; rfl⟩ ?_
      replace h := h.1 q31
      exact h
    replace h := h.2 q31
    by_cases q32 : nw_xiand (nw_sc sc x5) 63 = 27
    · refine nw_tsIn l_L_law_44 1896 ⟨by omega, by omega, by rw [q32]; rfl⟩ ?_
      replace h := h.1 q32
      exact h
    replace h := h.2 q32
    by_cases q33 : nw_xiand (nw_sc sc x5) 63 = 28
    · refine nw_tsIn l_L_law_44 1952 ⟨by omega, by omega, by rw [q33]; rfl⟩ ?_
      replace h := h.1 q33
      exact h
    replace h := h.2 q33
    by_cases q34 : nw_xiand (nw_sc sc x5) 63 = 29
    · refine nw_tsIn l_L_law_44 2008 ⟨by omega, by omega, by rw [q34]; rfl⟩ ?_
      replace h := h.1 q34
      exact h
    replace h := h.2 q34
    by_cases q35 : nw_xiand (nw_sc sc x5) 63 = 30
    · refine nw_tsIn l_L_law_44 2021 ⟨by omega, by omega, by rw [q35]; rfl⟩ ?_
      replace h := h.1 q35
      exact h
    replace h := h.2 q35
    by_cases q36 : nw_xiand (nw_sc sc x5) 63 = 31
    · refine nw_tsIn l_L_law_44 2077 ⟨by omega, by omega, by rw [q36]; rfl⟩ ?_
      replace h := h.1 q36
      exact h
    replace h := h.2 q36
    by_cases q37 : nw_xiand (nw_sc sc x5) 63 = 32
    · refine nw_tsIn l_L_law_44 2133 ⟨by omega, by omega, by rw [q37]; rfl⟩ ?_
      replace h := h.1 q37
      exact h
    replace h := h.2 q37
    by_cases q38 : nw_xiand (nw_sc sc x5) 63 = 33
    · refine nw_tsIn l_L_law_44 2189 ⟨by omega, by omega, by rw [q38]; rfl⟩ ?_
      replace h := h.1 q38
      exact h
    replace h := h.2 q38
    by_cases q39 : nw_xiand (nw_sc sc x5) 63 = 34
    · refine nw_tsIn l_L_law_44 2245 ⟨by omega, by omega, by rw [q39]; rfl⟩ ?_
      replace h := h.1 q39
      exact h
    replace h := h.2 q39
    by_cases q40 : nw_xiand (nw_sc sc x5) 63 = 35
    · refine nw_tsIn l_L_law_44 2301 ⟨by omega, by omega, by rw [q40]; rfl⟩ ?_
      replace h := h.1 q40
      exact h
    replace h := h.2 q40
    by_cases q41 : nw_xiand (nw_sc sc x5) 63 = 36
    · refine nw_tsIn l_L_law_44 2357 ⟨by omega, by omega, by rw [q41]; rfl⟩ ?_
      replace h := h.1 q41
      exact h
    replace h := h.2 q41
    by_cases q42 : nw_xiand (nw_sc sc x5) 63 = 37
    · refine nw_tsIn l_L_law_44 2382 ⟨by omega, by omega, by rw [q42]; rfl⟩ ?_
      replace h := h.1 q42
      exact h
    replace h := h.2 q42
    by_cases q43 : nw_xiand (nw_sc sc x5) 63 = 38
    · refine nw_tsIn l_L_law_44 2407 ⟨by omega, by omega, by rw [q43]; rfl⟩ ?_
      replace h := h.1 q43
      exact h
    replace h := h.2 q43
    by_cases q44 : nw_xiand (nw_sc sc x5) 63 = 39
    · refine nw_tsIn l_L_law_44 2463 ⟨by omega, by omega, by rw [q44]; rfl⟩ ?_
      replace h := h.1 q44
      exact h
    replace h := h.2 q44
    by_cases q45 : nw_xiand (nw_sc sc x5) 63 = 40
    · refine nw_tsIn l_L_law_44 2476 ⟨by omega, by omega, by rw [q45]; rfl⟩ ?_
      replace h := h.1 q45
      exact h
    replace h := h.2 q45
    by_cases q46 : nw_xiand (nw_sc sc x5) 63 = 41
    · refine nw_tsIn l_L_law_44 2520 ⟨by omega, by omega, by rw [q46]; rfl⟩ ?_
      replace h := h.1 q46
      exact h
    replace h := h.2 q46
    by_cases q47 : nw_xiand (nw_sc sc x5) 63 = 42
    · refine nw_tsIn l_L_law_44 2533 ⟨by omega, by omega, by rw [q47]; rfl⟩ ?_
      replace h := h.1 q47
      exact h
    replace h := h.2 q47
    by_cases q48 : nw_xiand (nw_sc sc x5) 63 = 43
    · refine nw_tsIn l_L_law_44 2589 ⟨by omega, by omega, by rw [q48]; rfl⟩ ?_
      replace h := h.1 q48
      exact h
    replace h := h.2 q48
    by_cases q49 : nw_xiand (nw_sc sc x5) 63 = 44
    · refine nw_tsIn l_L_law_44 2645 ⟨by omega, by omega, by rw [q49]; rfl⟩ ?_
      replace h := h.1 q49
      exact h
    replace h := h.2 q49
    by_cases q50 : nw_xiand (nw_sc sc x5) 63 = 45
    · refine nw_tsIn l_L_law_44 2701 ⟨by omega, by omega, by rw [q50]; rfl⟩ ?_
      replace h := h.1 q50
      exact h
    replace h := h.2 q50
    by_cases q51 : nw_xiand (nw_sc sc x5) 63 = 46
    · refine nw_tsIn l_L_law_44 2714 ⟨by omega, by omega, by rw [q51]; rfl⟩ ?_
      replace h := h.1 q51
      exact h
    replace h := h.2 q51
    by_cases q52 : nw_xiand (nw_sc sc x5) 63 = 47
    · refine nw_tsIn l_L_law_44 2728 ⟨by omega, by omega, by rw [q52]; rfl⟩ ?_
      replace h := h.1 q52
      exact h
    replace h := h.2 q52
    by_cases q53 : nw_xiand (nw_sc sc x5) 63 = 48
    · refine nw_tsIn l_L_law_44 2741 ⟨by omega, by omega, by rw [q53]; rfl⟩ ?_
      replace h := h.1 q53
      exact h
    replace h := h.2 q53
    by_cases q54 : nw_xiand (nw_sc sc x5) 63 = 49
    · refine nw_tsIn l_L_law_44 2799 ⟨by omega, by omega, by rw [q54]; rfl⟩ ?_
      replace h := h.1 q54
      exact h
    replace h := h.2 q54
    by_cases q55 : nw_xiand (nw_sc sc x5) 63 = 50
    · refine nw_tsIn l_L_law_44 2843 ⟨by omega, by omega, by rw [q55]; rfl⟩ ?_
      replace h := h.1 q55
      exact h
    replace h := h.2 q55
    by_cases q56 : nw_xiand (nw_sc sc x5) 63 = 51
    · refine nw_tsIn l_L_law_44 2887 ⟨by omega, by omega, by rw [q56]; rfl⟩ ?_
      replace h := h.1 q56
      exact h
    replace h := h.2 q56
    by_cases q57 : nw_xiand (nw_sc sc x5) 63 = 52
    · refine nw_tsIn l_L_law_44 2931 ⟨by omega, by omega, by rw [q57]; rfl⟩ ?_
      replace h := h.1 q57
      exact h
    replace h := h.2 q57
    by_cases q58 : nw_xiand (nw_sc sc x5) 63 = 53
    · refine nw_tsIn l_L_law_44 2987 ⟨by omega, by omega, by rw [q58]; rfl⟩ ?_
      replace h := h.1 q58
      exact h
    replace h := h.2 q58
    by_cases q59 : nw_xiand (nw_sc sc x5) 63 = 54
    · refine nw_tsIn l_L_law_44 3043 ⟨by omega, by omega, by rw [q59]; rfl⟩ ?_
      replace h := h.1 q59
      exact h
    replace h := h.2 q59
    by_cases q60 : nw_xiand (nw_sc sc x5) 63 = 55
    · refine nw_tsIn l_L_law_44 3108 ⟨by omega, by omega, by rw [q60]; rfl⟩ ?_
      replace h := h.1 q60
      exact h
    replace h := h.2 q60
    by_cases q61 : nw_xiand (nw_sc sc x5) 63 = 56
    · refine nw_tsIn l_L_law_44 3186 ⟨by omega, by omega, by rw [q61]; rfl⟩ ?_
      replace h := h.1 q61
      exact h
    replace h := h.2 q61
    by_cases q62 : nw_xiand (nw_sc sc x5) 63 = 57
    · refine nw_tsIn l_L_law_44 3199 ⟨by omega, by omega, by rw [q62]; rfl⟩ ?_
      replace h := h.1 q62
      exact h
    replace h := h.2 q62
    by_cases q63 : nw_xiand (nw_sc sc x5) 63 = 58
    · refine nw_tsIn l_L_law_44 3243 ⟨by omega, by omega, by rw [q63]; rfl⟩ ?_
      replace h := h.1 q63
      exact h
    replace h := h.2 q63
    by_cases q64 : nw_xiand (nw_sc sc x5) 63 = 59
    · refine nw_tsIn l_L_law_44 3256 ⟨by omega, by omega, by rw [q64]; rfl⟩ ?_
      replace h := h.1 q64
      exact h
    replace h := h.2 q64
    refine nw_tsOut l_L_law_44 (by omega) ?_
    exact h
theorem b_L_law_300 {x5 : Int} (hD : 18 ≤ D) (hc : 4 ≤ c) (hs : 24 ≤ sl) (h : ((-2147483648 ≤ x5 + 1 ∧ x5 + 1 < 2147483648) ∧ ((0 ≤ x5 + 1 ∧ x5 + 1 < (sc.1 : Int)) ∧ NW sc d_L_addCrater 5 (0, [some (.inr (.inl (some 0))), some (.inl (nw_sc sc (x5 + 1))), some (.inr (.inl (some 314))), none], [], (J, L, W), 4, 24) (fun v M9 => NW sc d_L_law D (311, [some (.inr (.inl (some 1000000))), some (.inr (.inl (some 0))), some (.inr (.inl (some 303))), some (.inr (.inl (some 314))), some (.inr (.inl (some 315))), some (.inl x5), none, none, none], nw_push v [], M9, (c - 4), (sl - 24)) Qr Qx) Qx))) :
    NW sc d_L_law D (300, [some (.inr (.inl (some 1000000))), some (.inr (.inl (some 0))), some (.inr (.inl (some 303))), some (.inr (.inl (some 314))), some (.inr (.inl (some 315))), some (.inl x5), none, none, none], [], (J, L, W), c, sl) Qr Qx := by
  refine nw_aload_n l_L_law_300 301 rfl rfl ?_
  refine nw_aload_n l_L_law_301 302 rfl rfl ?_
  refine nw_iload l_L_law_302 304 rfl rfl ?_
  refine nw_iconst (len := 0) l_L_law_304 305 rfl c_1 ?_
  have o1 := h.1
  replace h := h.2
  refine nw_iadd l_L_law_305 306 rfl o1 ?_
  have o2 := h.1
  replace h := h.2
  refine nw_sald l_L_law_306 307 rfl o2 ?_
  refine nw_aload_n l_L_law_307 308 rfl rfl ?_
  refine nw_call 5 4 24 0 l_L_law_308 rfl rfl g_L_addCrater (Nat.lt_of_lt_of_le (by decide) hD) rfl (by omega) (by omega) True.intro (ls' := [some (.inr (.inl (some 0))), some (.inl (nw_sc sc (x5 + 1))), some (.inr (.inl (some 314))), none]) rfl (st' := []) rfl 311 rfl (c' := (c - 4)) (by omega) (sl' := (sl - 24)) (by omega) ?_
  exact h
theorem b_L_law_356 {x5 : Int} (hD : 18 ≤ D) (hc : 4 ≤ c) (hs : 24 ≤ sl) (h : ((-2147483648 ≤ x5 + 1 ∧ x5 + 1 < 2147483648) ∧ ((0 ≤ x5 + 1 ∧ x5 + 1 < (sc.1 : Int)) ∧ ((-2147483648 ≤ x5 + 2 ∧ x5 + 2 < 2147483648) ∧ ((0 ≤ x5 + 2 ∧ x5 + 2 < (sc.1 : Int)) ∧ ((-2147483648 ≤ x5 + 3 ∧ x5 + 3 < 2147483648) ∧ ((0 ≤ x5 + 3 ∧ x5 + 3 < (sc.1 : Int)) ∧ ((-2147483648 ≤ x5 + 4 ∧ x5 + 4 < 2147483648) ∧ ((0 ≤ x5 + 4 ∧ x5 + 4 < (sc.1 : Int)) ∧ NW sc d_L_addChannel 5 (0, [some (.inr (.inl (some 0))), some (.inl (nw_sc sc (x5 + 1))), some (.inl (nw_sc sc (x5 + 2))), some (.inl (nw_sc sc (x5 + 3))), some (.inl (nw_sc sc (x5 + 4))), some (.inr (.inl (some 314))), none], [], (J, L, W), 4, 24) (fun v M9 => NW sc d_L_law D (385, [some (.inr (.inl (some 1000000))), some (.inr (.inl (some 0))), some (.inr (.inl (some 303))), some (.inr (.inl (some 314))), some (.inr (.inl (some 315))), some (.inl x5), none, none, none], nw_push v [], M9, (c - 4), (sl - 24)) Qr Qx) Qx))))))))) :
    NW sc d_L_law D (356, [some (.inr (.inl (some 1000000))), some (.inr (.inl (some 0))), some (.inr (.inl (some 303))), some (.inr (.inl (some 314))), some (.inr (.inl (some 315))), some (.inl x5), none, none, none], [], (J, L, W), c, sl) Qr Qx := by
  refine nw_aload_n l_L_law_356 357 rfl rfl ?_
  refine nw_aload_n l_L_law_357 358 rfl rfl ?_
  refine nw_iload l_L_law_358 360 rfl rfl ?_
  refine nw_iconst (len := 0) l_L_law_360 361 rfl c_1 ?_
  have o1 := h.1
  replace h := h.2
  refine nw_iadd l_L_law_361 362 rfl o1 ?_
  have o2 := h.1
  replace h := h.2
  refine nw_sald l_L_law_362 363 rfl o2 ?_
  refine nw_aload_n l_L_law_363 364 rfl rfl ?_
  refine nw_iload l_L_law_364 366 rfl rfl ?_
  refine nw_iconst (len := 0) l_L_law_366 367 rfl c_2 ?_
  have o3 := h.1
  replace h := h.2
  refine nw_iadd l_L_law_367 368 rfl o3 ?_
  have o4 := h.1
  replace h := h.2
  refine nw_sald l_L_law_368 369 rfl o4 ?_
  refine nw_aload_n l_L_law_369 370 rfl rfl ?_
  refine nw_iload l_L_law_370 372 rfl rfl ?_
  refine nw_iconst (len := 0) l_L_law_372 373 rfl c_3 ?_
  have o5 := h.1
  replace h := h.2
  refine nw_iadd l_L_law_373 374 rfl o5 ?_
  have o6 := h.1
  replace h := h.2
  refine nw_sald l_L_law_374 375 rfl o6 ?_
  refine nw_aload_n l_L_law_375 376 rfl rfl ?_
  refine nw_iload l_L_law_376 378 rfl rfl ?_
  refine nw_iconst (len := 0) l_L_law_378 379 rfl c_4 ?_
  have o7 := h.1
  replace h := h.2
  refine nw_iadd l_L_law_379 380 rfl o7 ?_
  have o8 := h.1
  replace h := h.2
  refine nw_sald l_L_law_380 381 rfl o8 ?_
  refine nw_aload_n l_L_law_381 382 rfl rfl ?_
  refine nw_call 5 4 24 0 l_L_law_382 rfl rfl g_L_addChannel (Nat.lt_of_lt_of_le (by decide) hD) rfl (by omega) (by omega) True.intro (ls' := [some (.inr (.inl (some 0))), some (.inl (nw_sc sc (x5 + 1))), some (.inl (nw_sc sc (x5 + 2))), some (.inl (nw_sc sc (x5 + 3))), some (.inl (nw_sc sc (x5 + 4))), some (.inr (.inl (some 314))), none]) rfl (st' := []) rfl 385 rfl (c' := (c - 4)) (by omega) (sl' := (sl - 24)) (by omega) ?_
  exact h
theorem b_L_law_448 {x5 : Int} (hD : 18 ≤ D) (hc : 4 ≤ c) (hs : 24 ≤ sl) (h : ((-2147483648 ≤ x5 + 1 ∧ x5 + 1 < 2147483648) ∧ ((0 ≤ x5 + 1 ∧ x5 + 1 < (sc.1 : Int)) ∧ NW sc d_L_removeChannel 5 (0, [some (.inr (.inl (some 0))), some (.inl (nw_sc sc (x5 + 1))), some (.inr (.inl (some 314))), none], [], (J, L, W), 4, 24) (fun v M9 => NW sc d_L_law D (459, [some (.inr (.inl (some 1000000))), some (.inr (.inl (some 0))), some (.inr (.inl (some 303))), some (.inr (.inl (some 314))), some (.inr (.inl (some 315))), some (.inl x5), none, none, none], nw_push v [], M9, (c - 4), (sl - 24)) Qr Qx) Qx))) :
    NW sc d_L_law D (448, [some (.inr (.inl (some 1000000))), some (.inr (.inl (some 0))), some (.inr (.inl (some 303))), some (.inr (.inl (some 314))), some (.inr (.inl (some 315))), some (.inl x5), none, none, none], [], (J, L, W), c, sl) Qr Qx := by
  refine nw_aload_n l_L_law_448 449 rfl rfl ?_
  refine nw_aload_n l_L_law_449 450 rfl rfl ?_
  refine nw_iload l_L_law_450 452 rfl rfl ?_
  refine nw_iconst (len := 0) l_L_law_452 453 rfl c_1 ?_
  have o1 := h.1
  replace h := h.2
  refine nw_iadd l_L_law_453 454 rfl o1 ?_
  have o2 := h.1
  replace h := h.2
  refine nw_sald l_L_law_454 455 rfl o2 ?_
  refine nw_aload_n l_L_law_455 456 rfl rfl ?_
  refine nw_call 5 4 24 0 l_L_law_456 rfl rfl g_L_removeChannel (Nat.lt_of_lt_of_le (by decide) hD) rfl (by omega) (by omega) True.intro (ls' := [some (.inr (.inl (some 0))), some (.inl (nw_sc sc (x5 + 1))), some (.inr (.inl (some 314))), none]) rfl (st' := []) rfl 459 rfl (c' := (c - 4)) (by omega) (sl' := (sl - 24)) (by omega) ?_
  exact h
theorem b_L_law_504 {x5 : Int} (hD : 18 ≤ D) (h : NW sc d_X11_craterCount 0 (0, [some (.inr (.inl (some 0)))], [], (J, L, W), 0, 0) (fun v M9 => NW sc d_L_law D (508, [some (.inr (.inl (some 1000000))), some (.inr (.inl (some 0))), some (.inr (.inl (some 303))), some (.inr (.inl (some 314))), some (.inr (.inl (some 315))), some (.inl x5), none, none, none], nw_push v [], M9, c, sl) Qr Qx) Qx) :
    NW sc d_L_law D (504, [some (.inr (.inl (some 1000000))), some (.inr (.inl (some 0))), some (.inr (.inl (some 303))), some (.inr (.inl (some 314))), some (.inr (.inl (some 315))), some (.inl x5), none, none, none], [], (J, L, W), c, sl) Qr Qx := by
  refine nw_aload_n l_L_law_504 505 rfl rfl ?_
  refine nw_call0 0 0 l_L_law_505 rfl rfl g_X11_craterCount (Nat.lt_of_lt_of_le (by decide) hD) rfl (Or.inl ⟨_, rfl, k_0⟩) (ls' := [some (.inr (.inl (some 0)))]) rfl (st' := []) rfl 508 rfl ?_
  exact h
theorem b_L_law_517 {x5 : Int} (hD : 18 ≤ D) (h : NW sc d_X11_channelCount 0 (0, [some (.inr (.inl (some 0)))], [], (J, L, W), 0, 0) (fun v M9 => NW sc d_L_law D (521, [some (.inr (.inl (some 1000000))), some (.inr (.inl (some 0))), some (.inr (.inl (some 303))), some (.inr (.inl (some 314))), some (.inr (.inl (some 315))), some (.inl x5), none, none, none], nw_push v [], M9, c, sl) Qr Qx) Qx) :
    NW sc d_L_law D (517, [some (.inr (.inl (some 1000000))), some (.inr (.inl (some 0))), some (.inr (.inl (some 303))), some (.inr (.inl (some 314))), some (.inr (.inl (some 315))), some (.inl x5), none, none, none], [], (J, L, W), c, sl) Qr Qx := by
  refine nw_aload_n l_L_law_517 518 rfl rfl ?_
  refine nw_call0 0 0 l_L_law_518 rfl rfl g_X11_channelCount (Nat.lt_of_lt_of_le (by decide) hD) rfl (Or.inl ⟨_, rfl, k_0⟩) (ls' := [some (.inr (.inl (some 0)))]) rfl (st' := []) rfl 521 rfl ?_
  exact h
theorem b_L_law_530 {x5 : Int} (hD : 18 ≤ D) (hc : 4 ≤ c) (hs : 24 ≤ sl) (h : ((-2147483648 ≤ x5 + 1 ∧ x5 + 1 < 2147483648) ∧ ((0 ≤ x5 + 1 ∧ x5 + 1 < (sc.1 : Int)) ∧ NW sc d_L_depthOf 3 (0, [some (.inr (.inl (some 0))), some (.inl (nw_sc sc (x5 + 1))), some (.inr (.inl (some 314))), none], [], (J, L, W), 4, 24) (fun v M9 => NW sc d_L_law D (541, [some (.inr (.inl (some 1000000))), some (.inr (.inl (some 0))), some (.inr (.inl (some 303))), some (.inr (.inl (some 314))), some (.inr (.inl (some 315))), some (.inl x5), none, none, none], nw_push v [], M9, (c - 4), (sl - 24)) Qr Qx) Qx))) :
    NW sc d_L_law D (530, [some (.inr (.inl (some 1000000))), some (.inr (.inl (some 0))), some (.inr (.inl (some 303))), some (.inr (.inl (some 314))), some (.inr (.inl (some 315))), some (.inl x5), none, none, none], [], (J, L, W), c, sl) Qr Qx := by
  refine nw_aload_n l_L_law_530 531 rfl rfl ?_
  refine nw_aload_n l_L_law_531 532 rfl rfl ?_
  refine nw_iload l_L_law_532 534 rfl rfl ?_
  refine nw_iconst (len := 0) l_L_law_534 535 rfl c_1 ?_
  have o1 := h.1
  replace h := h.2
  refine nw_iadd l_L_law_535 536 rfl o1 ?_
  have o2 := h.1
  replace h := h.2
  refine nw_sald l_L_law_536 537 rfl o2 ?_
  refine nw_aload_n l_L_law_537 538 rfl rfl ?_
  refine nw_call 3 4 24 0 l_L_law_538 rfl rfl g_L_depthOf (Nat.lt_of_lt_of_le (by decide) hD) rfl (by omega) (by omega) True.intro (ls' := [some (.inr (.inl (some 0))), some (.inl (nw_sc sc (x5 + 1))), some (.inr (.inl (some 314))), none]) rfl (st' := []) rfl 541 rfl (c' := (c - 4)) (by omega) (sl' := (sl - 24)) (by omega) ?_
  exact h
theorem b_L_law_586 {x5 : Int} (hD : 18 ≤ D) (hc : 4 ≤ c) (hs : 24 ≤ sl) (h : ((-2147483648 ≤ x5 + 1 ∧ x5 + 1 < 2147483648) ∧ ((0 ≤ x5 + 1 ∧ x5 + 1 < (sc.1 : Int)) ∧ ((-2147483648 ≤ x5 + 2 ∧ x5 + 2 < 2147483648) ∧ ((0 ≤ x5 + 2 ∧ x5 + 2 < (sc.1 : Int)) ∧ NW sc d_L_channelBetween 3 (0, [some (.inr (.inl (some 0))), some (.inl (nw_sc sc (x5 + 1))), some (.inl (nw_sc sc (x5 + 2))), some (.inr (.inl (some 314))), none], [], (J, L, W), 4, 24) (fun v M9 => NW sc d_L_law D (603, [some (.inr (.inl (some 1000000))), some (.inr (.inl (some 0))), some (.inr (.inl (some 303))), some (.inr (.inl (some 314))), some (.inr (.inl (some 315))), some (.inl x5), none, none, none], nw_push v [], M9, (c - 4), (sl - 24)) Qr Qx) Qx))))) :
    NW sc d_L_law D (586, [some (.inr (.inl (some 1000000))), some (.inr (.inl (some 0))), some (.inr (.inl (some 303))), some (.inr (.inl (some 314))), some (.inr (.inl (some 315))), some (.inl x5), none, none, none], [], (J, L, W), c, sl) Qr Qx := by
  refine nw_aload_n l_L_law_586 587 rfl rfl ?_
  refine nw_aload_n l_L_law_587 588 rfl rfl ?_
  refine nw_iload l_L_law_588 590 rfl rfl ?_
  refine nw_iconst (len := 0) l_L_law_590 591 rfl c_1 ?_
  have o1 := h.1
  replace h := h.2
  refine nw_iadd l_L_law_591 592 rfl o1 ?_
  have o2 := h.1
  replace h := h.2
  refine nw_sald l_L_law_592 593 rfl o2 ?_
  refine nw_aload_n l_L_law_593 594 rfl rfl ?_
  refine nw_iload l_L_law_594 596 rfl rfl ?_
  refine nw_iconst (len := 0) l_L_law_596 597 rfl c_2 ?_
  have o3 := h.1
  replace h := h.2
  refine nw_iadd l_L_law_597 598 rfl o3 ?_
  have o4 := h.1
  replace h := h.2
  refine nw_sald l_L_law_598 599 rfl o4 ?_
  refine nw_aload_n l_L_law_599 600 rfl rfl ?_
  refine nw_call 3 4 24 0 l_L_law_600 rfl rfl g_L_channelBetween (Nat.lt_of_lt_of_le (by decide) hD) rfl (by omega) (by omega) True.intro (ls' := [some (.inr (.inl (some 0))), some (.inl (nw_sc sc (x5 + 1))), some (.inl (nw_sc sc (x5 + 2))), some (.inr (.inl (some 314))), none]) rfl (st' := []) rfl 603 rfl (c' := (c - 4)) (by omega) (sl' := (sl - 24)) (by omega) ?_
  exact h
theorem b_L_law_654 {x5 : Int} (hD : 18 ≤ D) (hc : 4 ≤ c) (hs : 24 ≤ sl) (h : ((-2147483648 ≤ x5 + 1 ∧ x5 + 1 < 2147483648) ∧ ((0 ≤ x5 + 1 ∧ x5 + 1 < (sc.1 : Int)) ∧ NW sc d_L_tide 3 (0, [some (.inr (.inl (some 0))), some (.inl (nw_sc sc (x5 + 1))), some (.inr (.inl (some 314))), none], [], (J, L, W), 4, 24) (fun v M9 => NW sc d_L_law D (665, [some (.inr (.inl (some 1000000))), some (.inr (.inl (some 0))), some (.inr (.inl (some 303))), some (.inr (.inl (some 314))), some (.inr (.inl (some 315))), some (.inl x5), none, none, none], nw_push v [], M9, (c - 4), (sl - 24)) Qr Qx) Qx))) :
    NW sc d_L_law D (654, [some (.inr (.inl (some 1000000))), some (.inr (.inl (some 0))), some (.inr (.inl (some 303))), some (.inr (.inl (some 314))), some (.inr (.inl (some 315))), some (.inl x5), none, none, none], [], (J, L, W), c, sl) Qr Qx := by
  refine nw_aload_n l_L_law_654 655 rfl rfl ?_
  refine nw_aload_n l_L_law_655 656 rfl rfl ?_
  refine nw_iload l_L_law_656 658 rfl rfl ?_
  refine nw_iconst (len := 0) l_L_law_658 659 rfl c_1 ?_
  have o1 := h.1
  replace h := h.2
  refine nw_iadd l_L_law_659 660 rfl o1 ?_
  have o2 := h.1
  replace h := h.2
  refine nw_sald l_L_law_660 661 rfl o2 ?_
  refine nw_aload_n l_L_law_661 662 rfl rfl ?_
  refine nw_call 3 4 24 0 l_L_law_662 rfl rfl g_L_tide (Nat.lt_of_lt_of_le (by decide) hD) rfl (by omega) (by omega) True.intro (ls' := [some (.inr (.inl (some 0))), some (.inl (nw_sc sc (x5 + 1))), some (.inr (.inl (some 314))), none]) rfl (st' := []) rfl 665 rfl (c' := (c - 4)) (by omega) (sl' := (sl - 24)) (by omega) ?_
  exact h
theorem b_L_law_710 {x5 : Int} (hD : 18 ≤ D) (hc : 4 ≤ c) (hs : 24 ≤ sl) (h : ((-2147483648 ≤ x5 + 1 ∧ x5 + 1 < 2147483648) ∧ ((0 ≤ x5 + 1 ∧ x5 + 1 < (sc.1 : Int)) ∧ ((-2147483648 ≤ x5 + 2 ∧ x5 + 2 < 2147483648) ∧ ((0 ≤ x5 + 2 ∧ x5 + 2 < (sc.1 : Int)) ∧ NW sc d_L_wayHours 3 (0, [some (.inr (.inl (some 0))), some (.inl (nw_sc sc (x5 + 1))), some (.inl (nw_sc sc (x5 + 2))), some (.inr (.inl (some 314))), none], [], (J, L, W), 4, 24) (fun v M9 => NW sc d_L_law D (727, [some (.inr (.inl (some 1000000))), some (.inr (.inl (some 0))), some (.inr (.inl (some 303))), some (.inr (.inl (some 314))), some (.inr (.inl (some 315))), some (.inl x5), none, none, none], nw_push v [], M9, (c - 4), (sl - 24)) Qr Qx) Qx))))) :
    NW sc d_L_law D (710, [some (.inr (.inl (some 1000000))), some (.inr (.inl (some 0))), some (.inr (.inl (some 303))), some (.inr (.inl (some 314))), some (.inr (.inl (some 315))), some (.inl x5), none, none, none], [], (J, L, W), c, sl) Qr Qx := by
  refine nw_aload_n l_L_law_710 711 rfl rfl ?_
  refine nw_aload_n l_L_law_711 712 rfl rfl ?_
  refine nw_iload l_L_law_712 714 rfl rfl ?_
  refine nw_iconst (len := 0) l_L_law_714 715 rfl c_1 ?_
  have o1 := h.1
  replace h := h.2
  refine nw_iadd l_L_law_715 716 rfl o1 ?_
  have o2 := h.1
  replace h := h.2
  refine nw_sald l_L_law_716 717 rfl o2 ?_
  refine nw_aload_n l_L_law_717 718 rfl rfl ?_
  refine nw_iload l_L_law_718 720 rfl rfl ?_
  refine nw_iconst (len := 0) l_L_law_720 721 rfl c_2 ?_
  have o3 := h.1
  replace h := h.2
  refine nw_iadd l_L_law_721 722 rfl o3 ?_
  have o4 := h.1
  replace h := h.2
  refine nw_sald l_L_law_722 723 rfl o4 ?_
  refine nw_aload_n l_L_law_723 724 rfl rfl ?_
  refine nw_call 3 4 24 0 l_L_law_724 rfl rfl g_L_wayHours (Nat.lt_of_lt_of_le (by decide) hD) rfl (by omega) (by omega) True.intro (ls' := [some (.inr (.inl (some 0))), some (.inl (nw_sc sc (x5 + 1))), some (.inl (nw_sc sc (x5 + 2))), some (.inr (.inl (some 314))), none]) rfl (st' := []) rfl 727 rfl (c' := (c - 4)) (by omega) (sl' := (sl - 24)) (by omega) ?_
  exact h
theorem b_L_law_778 {x5 : Int} (hD : 18 ≤ D) (hc : 4 ≤ c) (hs : 24 ≤ sl) (h : ((-2147483648 ≤ x5 + 1 ∧ x5 + 1 < 2147483648) ∧ ((0 ≤ x5 + 1 ∧ x5 + 1 < (sc.1 : Int)) ∧ ((-2147483648 ≤ x5 + 2 ∧ x5 + 2 < 2147483648) ∧ ((0 ≤ x5 + 2 ∧ x5 + 2 < (sc.1 : Int)) ∧ NW sc d_L_wayHoursByTable 3 (0, [some (.inr (.inl (some 0))), some (.inl (nw_sc sc (x5 + 1))), some (.inl (nw_sc sc (x5 + 2))), some (.inr (.inl (some 314))), none], [], (J, L, W), 4, 24) (fun v M9 => NW sc d_L_law D (795, [some (.inr (.inl (some 1000000))), some (.inr (.inl (some 0))), some (.inr (.inl (some 303))), some (.inr (.inl (some 314))), some (.inr (.inl (some 315))), some (.inl x5), none, none, none], nw_push v [], M9, (c - 4), (sl - 24)) Qr Qx) Qx))))) :
    NW sc d_L_law D (778, [some (.inr (.inl (some 1000000))), some (.inr (.inl (some 0))), some (.inr (.inl (some 303))), some (.inr (.inl (some 314))), some (.inr (.inl (some 315))), some (.inl x5), none, none, none], [], (J, L, W), c, sl) Qr Qx := by
  refine nw_aload_n l_L_law_778 779 rfl rfl ?_
  refine nw_aload_n l_L_law_779 780 rfl rfl ?_
  refine nw_iload l_L_law_780 782 rfl rfl ?_
  refine nw_iconst (len := 0) l_L_law_782 783 rfl c_1 ?_
  have o1 := h.1
  replace h := h.2
  refine nw_iadd l_L_law_783 784 rfl o1 ?_
  have o2 := h.1
  replace h := h.2
  refine nw_sald l_L_law_784 785 rfl o2 ?_
  refine nw_aload_n l_L_law_785 786 rfl rfl ?_
  refine nw_iload l_L_law_786 788 rfl rfl ?_
  refine nw_iconst (len := 0) l_L_law_788 789 rfl c_2 ?_
  have o3 := h.1
  replace h := h.2
  refine nw_iadd l_L_law_789 790 rfl o3 ?_
  have o4 := h.1
  replace h := h.2
  refine nw_sald l_L_law_790 791 rfl o4 ?_
  refine nw_aload_n l_L_law_791 792 rfl rfl ?_
  refine nw_call 3 4 24 0 l_L_law_792 rfl rfl g_L_wayHoursByTable (Nat.lt_of_lt_of_le (by decide) hD) rfl (by omega) (by omega) True.intro (ls' := [some (.inr (.inl (some 0))), some (.inl (nw_sc sc (x5 + 1))), some (.inl (nw_sc sc (x5 + 2))), some (.inr (.inl (some 314))), none]) rfl (st' := []) rfl 795 rfl (c' := (c - 4)) (by omega) (sl' := (sl - 24)) (by omega) ?_
  exact h
theorem b_L_law_846 {x5 : Int} (hD : 18 ≤ D) (hc : 4 ≤ c) (hs : 24 ≤ sl) (h : NW sc d_L_cheapestNet 3 (0, [some (.inr (.inl (some 0))), some (.inr (.inl (some 314))), none], [], (J, L, W), 4, 24) (fun v M9 => NW sc d_L_law D (851, [some (.inr (.inl (some 1000000))), some (.inr (.inl (some 0))), some (.inr (.inl (some 303))), some (.inr (.inl (some 314))), some (.inr (.inl (some 315))), some (.inl x5), none, none, none], nw_push v [], M9, (c - 4), (sl - 24)) Qr Qx) Qx) :
    NW sc d_L_law D (846, [some (.inr (.inl (some 1000000))), some (.inr (.inl (some 0))), some (.inr (.inl (some 303))), some (.inr (.inl (some 314))), some (.inr (.inl (some 315))), some (.inl x5), none, none, none], [], (J, L, W), c, sl) Qr Qx := by
  refine nw_aload_n l_L_law_846 847 rfl rfl ?_
  refine nw_aload_n l_L_law_847 848 rfl rfl ?_
  refine nw_call 3 4 24 0 l_L_law_848 rfl rfl g_L_cheapestNet (Nat.lt_of_lt_of_le (by decide) hD) rfl (by omega) (by omega) True.intro (ls' := [some (.inr (.inl (some 0))), some (.inr (.inl (some 314))), none]) rfl (st' := []) rfl 851 rfl (c' := (c - 4)) (by omega) (sl' := (sl - 24)) (by omega) ?_
  exact h
theorem b_L_law_890 {x5 : Int} (hD : 18 ≤ D) (hc : 4 ≤ c) (hs : 24 ≤ sl) (h : NW sc d_L_cheapestNetByGrowing 3 (0, [some (.inr (.inl (some 0))), some (.inr (.inl (some 314))), none], [], (J, L, W), 4, 24) (fun v M9 => NW sc d_L_law D (895, [some (.inr (.inl (some 1000000))), some (.inr (.inl (some 0))), some (.inr (.inl (some 303))), some (.inr (.inl (some 314))), some (.inr (.inl (some 315))), some (.inl x5), none, none, none], nw_push v [], M9, (c - 4), (sl - 24)) Qr Qx) Qx) :
    NW sc d_L_law D (890, [some (.inr (.inl (some 1000000))), some (.inr (.inl (some 0))), some (.inr (.inl (some 303))), some (.inr (.inl (some 314))), some (.inr (.inl (some 315))), some (.inl x5), none, none, none], [], (J, L, W), c, sl) Qr Qx := by
  refine nw_aload_n l_L_law_890 891 rfl rfl ?_
  refine nw_aload_n l_L_law_891 892 rfl rfl ?_
  refine nw_call 3 4 24 0 l_L_law_892 rfl rfl g_L_cheapestNetByGrowing (Nat.lt_of_lt_of_le (by decide) hD) rfl (by omega) (by omega) True.intro (ls' := [some (.inr (.inl (some 0))), some (.inr (.inl (some 314))), none]) rfl (st' := []) rfl 895 rfl (c' := (c - 4)) (by omega) (sl' := (sl - 24)) (by omega) ?_
  exact h
theorem b_L_law_934 {x5 : Int} (hD : 18 ≤ D) (hc : 4 ≤ c) (hs : 24 ≤ sl) (h : ((-2147483648 ≤ x5 + 1 ∧ x5 + 1 < 2147483648) ∧ ((0 ≤ x5 + 1 ∧ x5 + 1 < (sc.1 : Int)) ∧ ((-2147483648 ≤ x5 + 2 ∧ x5 + 2 < 2147483648) ∧ ((0 ≤ x5 + 2 ∧ x5 + 2 < (sc.1 : Int)) ∧ ((-2147483648 ≤ x5 + 3 ∧ x5 + 3 < 2147483648) ∧ ((0 ≤ x5 + 3 ∧ x5 + 3 < (sc.1 : Int)) ∧ NW sc d_L_addFerry 5 (0, [some (.inr (.inl (some 0))), some (.inl (nw_sc sc (x5 + 1))), some (.inl (nw_sc sc (x5 + 2))), some (.inl (nw_sc sc (x5 + 3))), some (.inr (.inl (some 314))), none], [], (J, L, W), 4, 24) (fun v M9 => NW sc d_L_law D (957, [some (.inr (.inl (some 1000000))), some (.inr (.inl (some 0))), some (.inr (.inl (some 303))), some (.inr (.inl (some 314))), some (.inr (.inl (some 315))), some (.inl x5), none, none, none], nw_push v [], M9, (c - 4), (sl - 24)) Qr Qx) Qx))))))) :
    NW sc d_L_law D (934, [some (.inr (.inl (some 1000000))), some (.inr (.inl (some 0))), some (.inr (.inl (some 303))), some (.inr (.inl (some 314))), some (.inr (.inl (some 315))), some (.inl x5), none, none, none], [], (J, L, W), c, sl) Qr Qx := by
  refine nw_aload_n l_L_law_934 935 rfl rfl ?_
  refine nw_aload_n l_L_law_935 936 rfl rfl ?_
  refine nw_iload l_L_law_936 938 rfl rfl ?_
  refine nw_iconst (len := 0) l_L_law_938 939 rfl c_1 ?_
  have o1 := h.1
  replace h := h.2
  refine nw_iadd l_L_law_939 940 rfl o1 ?_
  have o2 := h.1
  replace h := h.2
  refine nw_sald l_L_law_940 941 rfl o2 ?_
  refine nw_aload_n l_L_law_941 942 rfl rfl ?_
  refine nw_iload l_L_law_942 944 rfl rfl ?_
  refine nw_iconst (len := 0) l_L_law_944 945 rfl c_2 ?_
  have o3 := h.1
  replace h := h.2
  refine nw_iadd l_L_law_945 946 rfl o3 ?_
  have o4 := h.1
  replace h := h.2
  refine nw_sald l_L_law_946 947 rfl o4 ?_
  refine nw_aload_n l_L_law_947 948 rfl rfl ?_
  refine nw_iload l_L_law_948 950 rfl rfl ?_
  refine nw_iconst (len := 0) l_L_law_950 951 rfl c_3 ?_
  have o5 := h.1
  replace h := h.2
  refine nw_iadd l_L_law_951 952 rfl o5 ?_
  have o6 := h.1
  replace h := h.2
  refine nw_sald l_L_law_952 953 rfl o6 ?_
  refine nw_aload_n l_L_law_953 954 rfl rfl ?_
  refine nw_call 5 4 24 0 l_L_law_954 rfl rfl g_L_addFerry (Nat.lt_of_lt_of_le (by decide) hD) rfl (by omega) (by omega) True.intro (ls' := [some (.inr (.inl (some 0))), some (.inl (nw_sc sc (x5 + 1))), some (.inl (nw_sc sc (x5 + 2))), some (.inl (nw_sc sc (x5 + 3))), some (.inr (.inl (some 314))), none]) rfl (st' := []) rfl 957 rfl (c' := (c - 4)) (by omega) (sl' := (sl - 24)) (by omega) ?_
  exact h
theorem b_L_law_1014 {x5 : Int} (hD : 18 ≤ D) (hc : 4 ≤ c) (hs : 24 ≤ sl) (h : ((-2147483648 ≤ x5 + 1 ∧ x5 + 1 < 2147483648) ∧ ((0 ≤ x5 + 1 ∧ x5 + 1 < (sc.1 : Int)) ∧ ((-2147483648 ≤ x5 + 2 ∧ x5 + 2 < 2147483648) ∧ ((0 ≤ x5 + 2 ∧ x5 + 2 < (sc.1 : Int)) ∧ NW sc d_L_sail 5 (0, [some (.inr (.inl (some 0))), some (.inl (nw_sc sc (x5 + 1))), some (.inl (nw_sc sc (x5 + 2))), some (.inr (.inl (some 314))), none], [], (J, L, W), 4, 24) (fun v M9 => NW sc d_L_law D (1031, [some (.inr (.inl (some 1000000))), some (.inr (.inl (some 0))), some (.inr (.inl (some 303))), some (.inr (.inl (some 314))), some (.inr (.inl (some 315))), some (.inl x5), none, none, none], nw_push v [], M9, (c - 4), (sl - 24)) Qr Qx) Qx))))) :
    NW sc d_L_law D (1014, [some (.inr (.inl (some 1000000))), some (.inr (.inl (some 0))), some (.inr (.inl (some 303))), some (.inr (.inl (some 314))), some (.inr (.inl (some 315))), some (.inl x5), none, none, none], [], (J, L, W), c, sl) Qr Qx := by
  refine nw_aload_n l_L_law_1014 1015 rfl rfl ?_
  refine nw_aload_n l_L_law_1015 1016 rfl rfl ?_
  refine nw_iload l_L_law_1016 1018 rfl rfl ?_
  refine nw_iconst (len := 0) l_L_law_1018 1019 rfl c_1 ?_
  have o1 := h.1
  replace h := h.2
  refine nw_iadd l_L_law_1019 1020 rfl o1 ?_
  have o2 := h.1
  replace h := h.2
  refine nw_sald l_L_law_1020 1021 rfl o2 ?_
  refine nw_aload_n l_L_law_1021 1022 rfl rfl ?_
  refine nw_iload l_L_law_1022 1024 rfl rfl ?_
  refine nw_iconst (len := 0) l_L_law_1024 1025 rfl c_2 ?_
  have o3 := h.1
  replace h := h.2
  refine nw_iadd l_L_law_1025 1026 rfl o3 ?_
  have o4 := h.1
  replace h := h.2
  refine nw_sald l_L_law_1026 1027 rfl o4 ?_
  refine nw_aload_n l_L_law_1027 1028 rfl rfl ?_
  refine nw_call 5 4 24 0 l_L_law_1028 rfl rfl g_L_sail (Nat.lt_of_lt_of_le (by decide) hD) rfl (by omega) (by omega) True.intro (ls' := [some (.inr (.inl (some 0))), some (.inl (nw_sc sc (x5 + 1))), some (.inl (nw_sc sc (x5 + 2))), some (.inr (.inl (some 314))), none]) rfl (st' := []) rfl 1031 rfl (c' := (c - 4)) (by omega) (sl' := (sl - 24)) (by omega) ?_
  exact h
theorem b_L_law_1082 {x5 : Int} (hD : 18 ≤ D) (hc : 4 ≤ c) (hs : 24 ≤ sl) (h : ((-2147483648 ≤ x5 + 1 ∧ x5 + 1 < 2147483648) ∧ ((0 ≤ x5 + 1 ∧ x5 + 1 < (sc.1 : Int)) ∧ NW sc d_L_isAtSea 3 (0, [some (.inr (.inl (some 0))), some (.inl (nw_sc sc (x5 + 1))), some (.inr (.inl (some 314))), none], [], (J, L, W), 4, 24) (fun v M9 => NW sc d_L_law D (1093, [some (.inr (.inl (some 1000000))), some (.inr (.inl (some 0))), some (.inr (.inl (some 303))), some (.inr (.inl (some 314))), some (.inr (.inl (some 315))), some (.inl x5), none, none, none], nw_push v [], M9, (c - 4), (sl - 24)) Qr Qx) Qx))) :
    NW sc d_L_law D (1082, [some (.inr (.inl (some 1000000))), some (.inr (.inl (some 0))), some (.inr (.inl (some 303))), some (.inr (.inl (some 314))), some (.inr (.inl (some 315))), some (.inl x5), none, none, none], [], (J, L, W), c, sl) Qr Qx := by
  refine nw_aload_n l_L_law_1082 1083 rfl rfl ?_
  refine nw_aload_n l_L_law_1083 1084 rfl rfl ?_
  refine nw_iload l_L_law_1084 1086 rfl rfl ?_
  refine nw_iconst (len := 0) l_L_law_1086 1087 rfl c_1 ?_
  have o1 := h.1
  replace h := h.2
  refine nw_iadd l_L_law_1087 1088 rfl o1 ?_
  have o2 := h.1
  replace h := h.2
  refine nw_sald l_L_law_1088 1089 rfl o2 ?_
  refine nw_aload_n l_L_law_1089 1090 rfl rfl ?_
  refine nw_call 3 4 24 0 l_L_law_1090 rfl rfl g_L_isAtSea (Nat.lt_of_lt_of_le (by decide) hD) rfl (by omega) (by omega) True.intro (ls' := [some (.inr (.inl (some 0))), some (.inl (nw_sc sc (x5 + 1))), some (.inr (.inl (some 314))), none]) rfl (st' := []) rfl 1093 rfl (c' := (c - 4)) (by omega) (sl' := (sl - 24)) (by omega) ?_
  exact h
theorem b_L_law_1145 {x5 : Int} (hD : 18 ≤ D) (hc : 4 ≤ c) (hs : 24 ≤ sl) (h : ((-2147483648 ≤ x5 + 1 ∧ x5 + 1 < 2147483648) ∧ ((0 ≤ x5 + 1 ∧ x5 + 1 < (sc.1 : Int)) ∧ NW sc d_L_craterOf 3 (0, [some (.inr (.inl (some 0))), some (.inl (nw_sc sc (x5 + 1))), some (.inr (.inl (some 314))), none], [], (J, L, W), 4, 24) (fun v M9 => NW sc d_L_law D (1156, [some (.inr (.inl (some 1000000))), some (.inr (.inl (some 0))), some (.inr (.inl (some 303))), some (.inr (.inl (some 314))), some (.inr (.inl (some 315))), some (.inl x5), none, none, none], nw_push v [], M9, (c - 4), (sl - 24)) Qr Qx) Qx))) :
    NW sc d_L_law D (1145, [some (.inr (.inl (some 1000000))), some (.inr (.inl (some 0))), some (.inr (.inl (some 303))), some (.inr (.inl (some 314))), some (.inr (.inl (some 315))), some (.inl x5), none, none, none], [], (J, L, W), c, sl) Qr Qx := by
  refine nw_aload_n l_L_law_1145 1146 rfl rfl ?_
  refine nw_aload_n l_L_law_1146 1147 rfl rfl ?_
  refine nw_iload l_L_law_1147 1149 rfl rfl ?_
  refine nw_iconst (len := 0) l_L_law_1149 1150 rfl c_1 ?_
  have o1 := h.1
  replace h := h.2
  refine nw_iadd l_L_law_1150 1151 rfl o1 ?_
  have o2 := h.1
  replace h := h.2
  refine nw_sald l_L_law_1151 1152 rfl o2 ?_
  refine nw_aload_n l_L_law_1152 1153 rfl rfl ?_
  refine nw_call 3 4 24 0 l_L_law_1153 rfl rfl g_L_craterOf (Nat.lt_of_lt_of_le (by decide) hD) rfl (by omega) (by omega) True.intro (ls' := [some (.inr (.inl (some 0))), some (.inl (nw_sc sc (x5 + 1))), some (.inr (.inl (some 314))), none]) rfl (st' := []) rfl 1156 rfl (c' := (c - 4)) (by omega) (sl' := (sl - 24)) (by omega) ?_
  exact h
theorem b_L_law_1201 {x5 : Int} (hD : 18 ≤ D) (hc : 4 ≤ c) (hs : 24 ≤ sl) (h : ((-2147483648 ≤ x5 + 1 ∧ x5 + 1 < 2147483648) ∧ ((0 ≤ x5 + 1 ∧ x5 + 1 < (sc.1 : Int)) ∧ NW sc d_L_targetOf 3 (0, [some (.inr (.inl (some 0))), some (.inl (nw_sc sc (x5 + 1))), some (.inr (.inl (some 314))), none], [], (J, L, W), 4, 24) (fun v M9 => NW sc d_L_law D (1212, [some (.inr (.inl (some 1000000))), some (.inr (.inl (some 0))), some (.inr (.inl (some 303))), some (.inr (.inl (some 314))), some (.inr (.inl (some 315))), some (.inl x5), none, none, none], nw_push v [], M9, (c - 4), (sl - 24)) Qr Qx) Qx))) :
    NW sc d_L_law D (1201, [some (.inr (.inl (some 1000000))), some (.inr (.inl (some 0))), some (.inr (.inl (some 303))), some (.inr (.inl (some 314))), some (.inr (.inl (some 315))), some (.inl x5), none, none, none], [], (J, L, W), c, sl) Qr Qx := by
  refine nw_aload_n l_L_law_1201 1202 rfl rfl ?_
  refine nw_aload_n l_L_law_1202 1203 rfl rfl ?_
  refine nw_iload l_L_law_1203 1205 rfl rfl ?_
  refine nw_iconst (len := 0) l_L_law_1205 1206 rfl c_1 ?_
  have o1 := h.1
  replace h := h.2
  refine nw_iadd l_L_law_1206 1207 rfl o1 ?_
  have o2 := h.1
  replace h := h.2
  refine nw_sald l_L_law_1207 1208 rfl o2 ?_
  refine nw_aload_n l_L_law_1208 1209 rfl rfl ?_
  refine nw_call 3 4 24 0 l_L_law_1209 rfl rfl g_L_targetOf (Nat.lt_of_lt_of_le (by decide) hD) rfl (by omega) (by omega) True.intro (ls' := [some (.inr (.inl (some 0))), some (.inl (nw_sc sc (x5 + 1))), some (.inr (.inl (some 314))), none]) rfl (st' := []) rfl 1212 rfl (c' := (c - 4)) (by omega) (sl' := (sl - 24)) (by omega) ?_
  exact h
theorem b_L_law_1257 {x5 : Int} (hD : 18 ≤ D) (hc : 4 ≤ c) (hs : 24 ≤ sl) (h : ((-2147483648 ≤ x5 + 1 ∧ x5 + 1 < 2147483648) ∧ ((0 ≤ x5 + 1 ∧ x5 + 1 < (sc.1 : Int)) ∧ NW sc d_L_hoursLeft 3 (0, [some (.inr (.inl (some 0))), some (.inl (nw_sc sc (x5 + 1))), some (.inr (.inl (some 314))), none], [], (J, L, W), 4, 24) (fun v M9 => NW sc d_L_law D (1268, [some (.inr (.inl (some 1000000))), some (.inr (.inl (some 0))), some (.inr (.inl (some 303))), some (.inr (.inl (some 314))), some (.inr (.inl (some 315))), some (.inl x5), none, none, none], nw_push v [], M9, (c - 4), (sl - 24)) Qr Qx) Qx))) :
    NW sc d_L_law D (1257, [some (.inr (.inl (some 1000000))), some (.inr (.inl (some 0))), some (.inr (.inl (some 303))), some (.inr (.inl (some 314))), some (.inr (.inl (some 315))), some (.inl x5), none, none, none], [], (J, L, W), c, sl) Qr Qx := by
  refine nw_aload_n l_L_law_1257 1258 rfl rfl ?_
  refine nw_aload_n l_L_law_1258 1259 rfl rfl ?_
  refine nw_iload l_L_law_1259 1261 rfl rfl ?_
  refine nw_iconst (len := 0) l_L_law_1261 1262 rfl c_1 ?_
  have o1 := h.1
  replace h := h.2
  refine nw_iadd l_L_law_1262 1263 rfl o1 ?_
  have o2 := h.1
  replace h := h.2
  refine nw_sald l_L_law_1263 1264 rfl o2 ?_
  refine nw_aload_n l_L_law_1264 1265 rfl rfl ?_
  refine nw_call 3 4 24 0 l_L_law_1265 rfl rfl g_L_hoursLeft (Nat.lt_of_lt_of_le (by decide) hD) rfl (by omega) (by omega) True.intro (ls' := [some (.inr (.inl (some 0))), some (.inl (nw_sc sc (x5 + 1))), some (.inr (.inl (some 314))), none]) rfl (st' := []) rfl 1268 rfl (c' := (c - 4)) (by omega) (sl' := (sl - 24)) (by omega) ?_
  exact h
theorem b_L_law_1313 {x5 : Int} (hD : 18 ≤ D) (hc : 4 ≤ c) (hs : 24 ≤ sl) (h : ((-2147483648 ≤ x5 + 1 ∧ x5 + 1 < 2147483648) ∧ ((0 ≤ x5 + 1 ∧ x5 + 1 < (sc.1 : Int)) ∧ NW sc d_L_isStranded 4 (0, [some (.inr (.inl (some 0))), some (.inl (nw_sc sc (x5 + 1))), some (.inr (.inl (some 314))), none], [], (J, L, W), 4, 24) (fun v M9 => NW sc d_L_law D (1324, [some (.inr (.inl (some 1000000))), some (.inr (.inl (some 0))), some (.inr (.inl (some 303))), some (.inr (.inl (some 314))), some (.inr (.inl (some 315))), some (.inl x5), none, none, none], nw_push v [], M9, (c - 4), (sl - 24)) Qr Qx) Qx))) :
    NW sc d_L_law D (1313, [some (.inr (.inl (some 1000000))), some (.inr (.inl (some 0))), some (.inr (.inl (some 303))), some (.inr (.inl (some 314))), some (.inr (.inl (some 315))), some (.inl x5), none, none, none], [], (J, L, W), c, sl) Qr Qx := by
  refine nw_aload_n l_L_law_1313 1314 rfl rfl ?_
  refine nw_aload_n l_L_law_1314 1315 rfl rfl ?_
  refine nw_iload l_L_law_1315 1317 rfl rfl ?_
  refine nw_iconst (len := 0) l_L_law_1317 1318 rfl c_1 ?_
  have o1 := h.1
  replace h := h.2
  refine nw_iadd l_L_law_1318 1319 rfl o1 ?_
  have o2 := h.1
  replace h := h.2
  refine nw_sald l_L_law_1319 1320 rfl o2 ?_
  refine nw_aload_n l_L_law_1320 1321 rfl rfl ?_
  refine nw_call 4 4 24 0 l_L_law_1321 rfl rfl g_L_isStranded (Nat.lt_of_lt_of_le (by decide) hD) rfl (by omega) (by omega) True.intro (ls' := [some (.inr (.inl (some 0))), some (.inl (nw_sc sc (x5 + 1))), some (.inr (.inl (some 314))), none]) rfl (st' := []) rfl 1324 rfl (c' := (c - 4)) (by omega) (sl' := (sl - 24)) (by omega) ?_
  exact h
theorem b_L_law_1376 {x5 : Int} (hD : 18 ≤ D) (hc : 4 ≤ c) (hs : 24 ≤ sl) (h : ((-2147483648 ≤ x5 + 1 ∧ x5 + 1 < 2147483648) ∧ ((0 ≤ x5 + 1 ∧ x5 + 1 < (sc.1 : Int)) ∧ NW sc d_L_loadOf 3 (0, [some (.inr (.inl (some 0))), some (.inl (nw_sc sc (x5 + 1))), some (.inr (.inl (some 314))), none], [], (J, L, W), 4, 24) (fun v M9 => NW sc d_L_law D (1387, [some (.inr (.inl (some 1000000))), some (.inr (.inl (some 0))), some (.inr (.inl (some 303))), some (.inr (.inl (some 314))), some (.inr (.inl (some 315))), some (.inl x5), none, none, none], nw_push v [], M9, (c - 4), (sl - 24)) Qr Qx) Qx))) :
    NW sc d_L_law D (1376, [some (.inr (.inl (some 1000000))), some (.inr (.inl (some 0))), some (.inr (.inl (some 303))), some (.inr (.inl (some 314))), some (.inr (.inl (some 315))), some (.inl x5), none, none, none], [], (J, L, W), c, sl) Qr Qx := by
  refine nw_aload_n l_L_law_1376 1377 rfl rfl ?_
  refine nw_aload_n l_L_law_1377 1378 rfl rfl ?_
  refine nw_iload l_L_law_1378 1380 rfl rfl ?_
  refine nw_iconst (len := 0) l_L_law_1380 1381 rfl c_1 ?_
  have o1 := h.1
  replace h := h.2
  refine nw_iadd l_L_law_1381 1382 rfl o1 ?_
  have o2 := h.1
  replace h := h.2
  refine nw_sald l_L_law_1382 1383 rfl o2 ?_
  refine nw_aload_n l_L_law_1383 1384 rfl rfl ?_
  refine nw_call 3 4 24 0 l_L_law_1384 rfl rfl g_L_loadOf (Nat.lt_of_lt_of_le (by decide) hD) rfl (by omega) (by omega) True.intro (ls' := [some (.inr (.inl (some 0))), some (.inl (nw_sc sc (x5 + 1))), some (.inr (.inl (some 314))), none]) rfl (st' := []) rfl 1387 rfl (c' := (c - 4)) (by omega) (sl' := (sl - 24)) (by omega) ?_
  exact h
theorem b_L_law_1432 {x5 : Int} (hD : 18 ≤ D) (hc : 4 ≤ c) (hs : 24 ≤ sl) (h : ((-2147483648 ≤ x5 + 1 ∧ x5 + 1 < 2147483648) ∧ ((0 ≤ x5 + 1 ∧ x5 + 1 < (sc.1 : Int)) ∧ ((-2147483648 ≤ x5 + 2 ∧ x5 + 2 < 2147483648) ∧ ((0 ≤ x5 + 2 ∧ x5 + 2 < (sc.1 : Int)) ∧ NW sc d_L_earliestArrival 6 (0, [some (.inr (.inl (some 0))), some (.inl (nw_sc sc (x5 + 1))), some (.inl (nw_sc sc (x5 + 2))), some (.inr (.inl (some 314))), none], [], (J, L, W), 4, 24) (fun v M9 => NW sc d_L_law D (1449, [some (.inr (.inl (some 1000000))), some (.inr (.inl (some 0))), some (.inr (.inl (some 303))), some (.inr (.inl (some 314))), some (.inr (.inl (some 315))), some (.inl x5), none, none, none], nw_push v [], M9, (c - 4), (sl - 24)) Qr Qx) Qx))))) :
    NW sc d_L_law D (1432, [some (.inr (.inl (some 1000000))), some (.inr (.inl (some 0))), some (.inr (.inl (some 303))), some (.inr (.inl (some 314))), some (.inr (.inl (some 315))), some (.inl x5), none, none, none], [], (J, L, W), c, sl) Qr Qx := by
  refine nw_aload_n l_L_law_1432 1433 rfl rfl ?_
  refine nw_aload_n l_L_law_1433 1434 rfl rfl ?_
  refine nw_iload l_L_law_1434 1436 rfl rfl ?_
  refine nw_iconst (len := 0) l_L_law_1436 1437 rfl c_1 ?_
  have o1 := h.1
  replace h := h.2
  refine nw_iadd l_L_law_1437 1438 rfl o1 ?_
  have o2 := h.1
  replace h := h.2
  refine nw_sald l_L_law_1438 1439 rfl o2 ?_
  refine nw_aload_n l_L_law_1439 1440 rfl rfl ?_
  refine nw_iload l_L_law_1440 1442 rfl rfl ?_
  refine nw_iconst (len := 0) l_L_law_1442 1443 rfl c_2 ?_
  have o3 := h.1
  replace h := h.2
  refine nw_iadd l_L_law_1443 1444 rfl o3 ?_
  have o4 := h.1
  replace h := h.2
  refine nw_sald l_L_law_1444 1445 rfl o4 ?_
  refine nw_aload_n l_L_law_1445 1446 rfl rfl ?_
  refine nw_call 6 4 24 0 l_L_law_1446 rfl rfl g_L_earliestArrival (Nat.lt_of_lt_of_le (by decide) hD) rfl (by omega) (by omega) True.intro (ls' := [some (.inr (.inl (some 0))), some (.inl (nw_sc sc (x5 + 1))), some (.inl (nw_sc sc (x5 + 2))), some (.inr (.inl (some 314))), none]) rfl (st' := []) rfl 1449 rfl (c' := (c - 4)) (by omega) (sl' := (sl - 24)) (by omega) ?_
  exact h
theorem b_L_law_1500 {x5 : Int} (hD : 18 ≤ D) (hc : 4 ≤ c) (hs : 24 ≤ sl) (h : ((-2147483648 ≤ x5 + 1 ∧ x5 + 1 < 2147483648) ∧ ((0 ≤ x5 + 1 ∧ x5 + 1 < (sc.1 : Int)) ∧ ((-2147483648 ≤ x5 + 2 ∧ x5 + 2 < 2147483648) ∧ ((0 ≤ x5 + 2 ∧ x5 + 2 < (sc.1 : Int)) ∧ NW sc d_L_earliestArrivalByHours 5 (0, [some (.inr (.inl (some 0))), some (.inl (nw_sc sc (x5 + 1))), some (.inl (nw_sc sc (x5 + 2))), some (.inr (.inl (some 314))), none], [], (J, L, W), 4, 24) (fun v M9 => NW sc d_L_law D (1517, [some (.inr (.inl (some 1000000))), some (.inr (.inl (some 0))), some (.inr (.inl (some 303))), some (.inr (.inl (some 314))), some (.inr (.inl (some 315))), some (.inl x5), none, none, none], nw_push v [], M9, (c - 4), (sl - 24)) Qr Qx) Qx))))) :
    NW sc d_L_law D (1500, [some (.inr (.inl (some 1000000))), some (.inr (.inl (some 0))), some (.inr (.inl (some 303))), some (.inr (.inl (some 314))), some (.inr (.inl (some 315))), some (.inl x5), none, none, none], [], (J, L, W), c, sl) Qr Qx := by
  refine nw_aload_n l_L_law_1500 1501 rfl rfl ?_
  refine nw_aload_n l_L_law_1501 1502 rfl rfl ?_
  refine nw_iload l_L_law_1502 1504 rfl rfl ?_
  refine nw_iconst (len := 0) l_L_law_1504 1505 rfl c_1 ?_
  have o1 := h.1
  replace h := h.2
  refine nw_iadd l_L_law_1505 1506 rfl o1 ?_
  have o2 := h.1
  replace h := h.2
  refine nw_sald l_L_law_1506 1507 rfl o2 ?_
  refine nw_aload_n l_L_law_1507 1508 rfl rfl ?_
  refine nw_iload l_L_law_1508 1510 rfl rfl ?_
  refine nw_iconst (len := 0) l_L_law_1510 1511 rfl c_2 ?_
  have o3 := h.1
  replace h := h.2
  refine nw_iadd l_L_law_1511 1512 rfl o3 ?_
  have o4 := h.1
  replace h := h.2
  refine nw_sald l_L_law_1512 1513 rfl o4 ?_
  refine nw_aload_n l_L_law_1513 1514 rfl rfl ?_
  refine nw_call 5 4 24 0 l_L_law_1514 rfl rfl g_L_earliestArrivalByHours (Nat.lt_of_lt_of_le (by decide) hD) rfl (by omega) (by omega) True.intro (ls' := [some (.inr (.inl (some 0))), some (.inl (nw_sc sc (x5 + 1))), some (.inl (nw_sc sc (x5 + 2))), some (.inr (.inl (some 314))), none]) rfl (st' := []) rfl 1517 rfl (c' := (c - 4)) (by omega) (sl' := (sl - 24)) (by omega) ?_
  exact h
theorem b_L_law_1568 {x5 : Int} (hD : 18 ≤ D) (hc : 4 ≤ c) (hs : 24 ≤ sl) (h : ((-2147483648 ≤ x5 + 1 ∧ x5 + 1 < 2147483648) ∧ ((0 ≤ x5 + 1 ∧ x5 + 1 < (sc.1 : Int)) ∧ ((-2147483648 ≤ x5 + 2 ∧ x5 + 2 < 2147483648) ∧ ((0 ≤ x5 + 2 ∧ x5 + 2 < (sc.1 : Int)) ∧ ((-2147483648 ≤ x5 + 3 ∧ x5 + 3 < 2147483648) ∧ ((0 ≤ x5 + 3 ∧ x5 + 3 < (sc.1 : Int)) ∧ ((-2147483648 ≤ x5 + 4 ∧ x5 + 4 < 2147483648) ∧ ((0 ≤ x5 + 4 ∧ x5 + 4 < (sc.1 : Int)) ∧ NW sc d_L_addMoon 5 (0, [some (.inr (.inl (some 0))), some (.inl (nw_sc sc (x5 + 1))), some (.inl (nw_sc sc (x5 + 2))), some (.inl (nw_sc sc (x5 + 3))), some (.inl (nw_sc sc (x5 + 4))), some (.inr (.inl (some 314))), none], [], (J, L, W), 4, 24) (fun v M9 => NW sc d_L_law D (1597, [some (.inr (.inl (some 1000000))), some (.inr (.inl (some 0))), some (.inr (.inl (some 303))), some (.inr (.inl (some 314))), some (.inr (.inl (some 315))), some (.inl x5), none, none, none], nw_push v [], M9, (c - 4), (sl - 24)) Qr Qx) Qx))))))))) :
    NW sc d_L_law D (1568, [some (.inr (.inl (some 1000000))), some (.inr (.inl (some 0))), some (.inr (.inl (some 303))), some (.inr (.inl (some 314))), some (.inr (.inl (some 315))), some (.inl x5), none, none, none], [], (J, L, W), c, sl) Qr Qx := by
  refine nw_aload_n l_L_law_1568 1569 rfl rfl ?_
  refine nw_aload_n l_L_law_1569 1570 rfl rfl ?_
  refine nw_iload l_L_law_1570 1572 rfl rfl ?_
  refine nw_iconst (len := 0) l_L_law_1572 1573 rfl c_1 ?_
  have o1 := h.1
  replace h := h.2
  refine nw_iadd l_L_law_1573 1574 rfl o1 ?_
  have o2 := h.1
  replace h := h.2
  refine nw_sald l_L_law_1574 1575 rfl o2 ?_
  refine nw_aload_n l_L_law_1575 1576 rfl rfl ?_
  refine nw_iload l_L_law_1576 1578 rfl rfl ?_
  refine nw_iconst (len := 0) l_L_law_1578 1579 rfl c_2 ?_
  have o3 := h.1
  replace h := h.2
  refine nw_iadd l_L_law_1579 1580 rfl o3 ?_
  have o4 := h.1
  replace h := h.2
  refine nw_sald l_L_law_1580 1581 rfl o4 ?_
  refine nw_aload_n l_L_law_1581 1582 rfl rfl ?_
  refine nw_iload l_L_law_1582 1584 rfl rfl ?_
  refine nw_iconst (len := 0) l_L_law_1584 1585 rfl c_3 ?_
  have o5 := h.1
  replace h := h.2
  refine nw_iadd l_L_law_1585 1586 rfl o5 ?_
  have o6 := h.1
  replace h := h.2
  refine nw_sald l_L_law_1586 1587 rfl o6 ?_
  refine nw_aload_n l_L_law_1587 1588 rfl rfl ?_
  refine nw_iload l_L_law_1588 1590 rfl rfl ?_
  refine nw_iconst (len := 0) l_L_law_1590 1591 rfl c_4 ?_
  have o7 := h.1
  replace h := h.2
  refine nw_iadd l_L_law_1591 1592 rfl o7 ?_
  have o8 := h.1
  replace h := h.2
  refine nw_sald l_L_law_1592 1593 rfl o8 ?_
  refine nw_aload_n l_L_law_1593 1594 rfl rfl ?_
  refine nw_call 5 4 24 0 l_L_law_1594 rfl rfl g_L_addMoon (Nat.lt_of_lt_of_le (by decide) hD) rfl (by omega) (by omega) True.intro (ls' := [some (.inr (.inl (some 0))), some (.inl (nw_sc sc (x5 + 1))), some (.inl (nw_sc sc (x5 + 2))), some (.inl (nw_sc sc (x5 + 3))), some (.inl (nw_sc sc (x5 + 4))), some (.inr (.inl (some 314))), none]) rfl (st' := []) rfl 1597 rfl (c' := (c - 4)) (by omega) (sl' := (sl - 24)) (by omega) ?_
  exact h
theorem b_L_law_1660 {x5 : Int} (hD : 18 ≤ D) (hc : 4 ≤ c) (hs : 24 ≤ sl) (h : ((-2147483648 ≤ x5 + 1 ∧ x5 + 1 < 2147483648) ∧ ((0 ≤ x5 + 1 ∧ x5 + 1 < (sc.1 : Int)) ∧ ((-2147483648 ≤ x5 + 2 ∧ x5 + 2 < 2147483648) ∧ ((0 ≤ x5 + 2 ∧ x5 + 2 < (sc.1 : Int)) ∧ NW sc d_L_board 5 (0, [some (.inr (.inl (some 0))), some (.inl (nw_sc sc (x5 + 1))), some (.inl (nw_sc sc (x5 + 2))), some (.inr (.inl (some 314))), none], [], (J, L, W), 4, 24) (fun v M9 => NW sc d_L_law D (1677, [some (.inr (.inl (some 1000000))), some (.inr (.inl (some 0))), some (.inr (.inl (some 303))), some (.inr (.inl (some 314))), some (.inr (.inl (some 315))), some (.inl x5), none, none, none], nw_push v [], M9, (c - 4), (sl - 24)) Qr Qx) Qx))))) :
    NW sc d_L_law D (1660, [some (.inr (.inl (some 1000000))), some (.inr (.inl (some 0))), some (.inr (.inl (some 303))), some (.inr (.inl (some 314))), some (.inr (.inl (some 315))), some (.inl x5), none, none, none], [], (J, L, W), c, sl) Qr Qx := by
  refine nw_aload_n l_L_law_1660 1661 rfl rfl ?_
  refine nw_aload_n l_L_law_1661 1662 rfl rfl ?_
  refine nw_iload l_L_law_1662 1664 rfl rfl ?_
  refine nw_iconst (len := 0) l_L_law_1664 1665 rfl c_1 ?_
  have o1 := h.1
  replace h := h.2
  refine nw_iadd l_L_law_1665 1666 rfl o1 ?_
  have o2 := h.1
  replace h := h.2
  refine nw_sald l_L_law_1666 1667 rfl o2 ?_
  refine nw_aload_n l_L_law_1667 1668 rfl rfl ?_
  refine nw_iload l_L_law_1668 1670 rfl rfl ?_
  refine nw_iconst (len := 0) l_L_law_1670 1671 rfl c_2 ?_
  have o3 := h.1
  replace h := h.2
  refine nw_iadd l_L_law_1671 1672 rfl o3 ?_
  have o4 := h.1
  replace h := h.2
  refine nw_sald l_L_law_1672 1673 rfl o4 ?_
  refine nw_aload_n l_L_law_1673 1674 rfl rfl ?_
  refine nw_call 5 4 24 0 l_L_law_1674 rfl rfl g_L_board (Nat.lt_of_lt_of_le (by decide) hD) rfl (by omega) (by omega) True.intro (ls' := [some (.inr (.inl (some 0))), some (.inl (nw_sc sc (x5 + 1))), some (.inl (nw_sc sc (x5 + 2))), some (.inr (.inl (some 314))), none]) rfl (st' := []) rfl 1677 rfl (c' := (c - 4)) (by omega) (sl' := (sl - 24)) (by omega) ?_
  exact h
theorem b_L_law_1728 {x5 : Int} (hD : 18 ≤ D) (hc : 4 ≤ c) (hs : 24 ≤ sl) (h : ((-2147483648 ≤ x5 + 1 ∧ x5 + 1 < 2147483648) ∧ ((0 ≤ x5 + 1 ∧ x5 + 1 < (sc.1 : Int)) ∧ NW sc d_L_land 5 (0, [some (.inr (.inl (some 0))), some (.inl (nw_sc sc (x5 + 1))), some (.inr (.inl (some 314))), none], [], (J, L, W), 4, 24) (fun v M9 => NW sc d_L_law D (1739, [some (.inr (.inl (some 1000000))), some (.inr (.inl (some 0))), some (.inr (.inl (some 303))), some (.inr (.inl (some 314))), some (.inr (.inl (some 315))), some (.inl x5), none, none, none], nw_push v [], M9, (c - 4), (sl - 24)) Qr Qx) Qx))) :
    NW sc d_L_law D (1728, [some (.inr (.inl (some 1000000))), some (.inr (.inl (some 0))), some (.inr (.inl (some 303))), some (.inr (.inl (some 314))), some (.inr (.inl (some 315))), some (.inl x5), none, none, none], [], (J, L, W), c, sl) Qr Qx := by
  refine nw_aload_n l_L_law_1728 1729 rfl rfl ?_
  refine nw_aload_n l_L_law_1729 1730 rfl rfl ?_
  refine nw_iload l_L_law_1730 1732 rfl rfl ?_
  refine nw_iconst (len := 0) l_L_law_1732 1733 rfl c_1 ?_
  have o1 := h.1
  replace h := h.2
  refine nw_iadd l_L_law_1733 1734 rfl o1 ?_
  have o2 := h.1
  replace h := h.2
  refine nw_sald l_L_law_1734 1735 rfl o2 ?_
  refine nw_aload_n l_L_law_1735 1736 rfl rfl ?_
  refine nw_call 5 4 24 0 l_L_law_1736 rfl rfl g_L_land (Nat.lt_of_lt_of_le (by decide) hD) rfl (by omega) (by omega) True.intro (ls' := [some (.inr (.inl (some 0))), some (.inl (nw_sc sc (x5 + 1))), some (.inr (.inl (some 314))), none]) rfl (st' := []) rfl 1739 rfl (c' := (c - 4)) (by omega) (sl' := (sl - 24)) (by omega) ?_
  exact h
theorem b_L_law_1784 {x5 : Int} (hD : 18 ≤ D) (hc : 4 ≤ c) (hs : 24 ≤ sl) (h : ((-2147483648 ≤ x5 + 1 ∧ x5 + 1 < 2147483648) ∧ ((0 ≤ x5 + 1 ∧ x5 + 1 < (sc.1 : Int)) ∧ NW sc d_L_loadBest 16 (0, [some (.inr (.inl (some 0))), some (.inl (nw_sc sc (x5 + 1))), some (.inr (.inl (some 314))), none], [], (J, L, W), 4, 24) (fun v M9 => NW sc d_L_law D (1795, [some (.inr (.inl (some 1000000))), some (.inr (.inl (some 0))), some (.inr (.inl (some 303))), some (.inr (.inl (some 314))), some (.inr (.inl (some 315))), some (.inl x5), none, none, none], nw_push v [], M9, (c - 4), (sl - 24)) Qr Qx) Qx))) :
    NW sc d_L_law D (1784, [some (.inr (.inl (some 1000000))), some (.inr (.inl (some 0))), some (.inr (.inl (some 303))), some (.inr (.inl (some 314))), some (.inr (.inl (some 315))), some (.inl x5), none, none, none], [], (J, L, W), c, sl) Qr Qx := by
  refine nw_aload_n l_L_law_1784 1785 rfl rfl ?_
  refine nw_aload_n l_L_law_1785 1786 rfl rfl ?_
  refine nw_iload l_L_law_1786 1788 rfl rfl ?_
  refine nw_iconst (len := 0) l_L_law_1788 1789 rfl c_1 ?_
  have o1 := h.1
  replace h := h.2
  refine nw_iadd l_L_law_1789 1790 rfl o1 ?_
  have o2 := h.1
  replace h := h.2
  refine nw_sald l_L_law_1790 1791 rfl o2 ?_
  refine nw_aload_n l_L_law_1791 1792 rfl rfl ?_
  refine nw_call 16 4 24 0 l_L_law_1792 rfl rfl g_L_loadBest (Nat.lt_of_lt_of_le (by decide) hD) rfl (by omega) (by omega) True.intro (ls' := [some (.inr (.inl (some 0))), some (.inl (nw_sc sc (x5 + 1))), some (.inr (.inl (some 314))), none]) rfl (st' := []) rfl 1795 rfl (c' := (c - 4)) (by omega) (sl' := (sl - 24)) (by omega) ?_
  exact h
theorem b_L_law_1840 {x5 : Int} (hD : 18 ≤ D) (hc : 4 ≤ c) (hs : 24 ≤ sl) (h : ((-2147483648 ≤ x5 + 1 ∧ x5 + 1 < 2147483648) ∧ ((0 ≤ x5 + 1 ∧ x5 + 1 < (sc.1 : Int)) ∧ NW sc d_L_bestLoad 15 (0, [some (.inr (.inl (some 0))), some (.inl (nw_sc sc (x5 + 1))), some (.inr (.inl (some 314))), none], [], (J, L, W), 4, 24) (fun v M9 => NW sc d_L_law D (1851, [some (.inr (.inl (some 1000000))), some (.inr (.inl (some 0))), some (.inr (.inl (some 303))), some (.inr (.inl (some 314))), some (.inr (.inl (some 315))), some (.inl x5), none, none, none], nw_push v [], M9, (c - 4), (sl - 24)) Qr Qx) Qx))) :
    NW sc d_L_law D (1840, [some (.inr (.inl (some 1000000))), some (.inr (.inl (some 0))), some (.inr (.inl (some 303))), some (.inr (.inl (some 314))), some (.inr (.inl (some 315))), some (.inl x5), none, none, none], [], (J, L, W), c, sl) Qr Qx := by
  refine nw_aload_n l_L_law_1840 1841 rfl rfl ?_
  refine nw_aload_n l_L_law_1841 1842 rfl rfl ?_
  refine nw_iload l_L_law_1842 1844 rfl rfl ?_
  refine nw_iconst (len := 0) l_L_law_1844 1845 rfl c_1 ?_
  have o1 := h.1
  replace h := h.2
  refine nw_iadd l_L_law_1845 1846 rfl o1 ?_
  have o2 := h.1
  replace h := h.2
  refine nw_sald l_L_law_1846 1847 rfl o2 ?_
  refine nw_aload_n l_L_law_1847 1848 rfl rfl ?_
  refine nw_call 15 4 24 0 l_L_law_1848 rfl rfl g_L_bestLoad (Nat.lt_of_lt_of_le (by decide) hD) rfl (by omega) (by omega) True.intro (ls' := [some (.inr (.inl (some 0))), some (.inl (nw_sc sc (x5 + 1))), some (.inr (.inl (some 314))), none]) rfl (st' := []) rfl 1851 rfl (c' := (c - 4)) (by omega) (sl' := (sl - 24)) (by omega) ?_
  exact h
theorem b_L_law_1896 {x5 : Int} (hD : 18 ≤ D) (hc : 4 ≤ c) (hs : 24 ≤ sl) (h : ((-2147483648 ≤ x5 + 1 ∧ x5 + 1 < 2147483648) ∧ ((0 ≤ x5 + 1 ∧ x5 + 1 < (sc.1 : Int)) ∧ NW sc d_L_bestLoadByTable 5 (0, [some (.inr (.inl (some 0))), some (.inl (nw_sc sc (x5 + 1))), some (.inr (.inl (some 314))), none], [], (J, L, W), 4, 24) (fun v M9 => NW sc d_L_law D (1907, [some (.inr (.inl (some 1000000))), some (.inr (.inl (some 0))), some (.inr (.inl (some 303))), some (.inr (.inl (some 314))), some (.inr (.inl (some 315))), some (.inl x5), none, none, none], nw_push v [], M9, (c - 4), (sl - 24)) Qr Qx) Qx))) :
    NW sc d_L_law D (1896, [some (.inr (.inl (some 1000000))), some (.inr (.inl (some 0))), some (.inr (.inl (some 303))), some (.inr (.inl (some 314))), some (.inr (.inl (some 315))), some (.inl x5), none, none, none], [], (J, L, W), c, sl) Qr Qx := by
  refine nw_aload_n l_L_law_1896 1897 rfl rfl ?_
  refine nw_aload_n l_L_law_1897 1898 rfl rfl ?_
  refine nw_iload l_L_law_1898 1900 rfl rfl ?_
  refine nw_iconst (len := 0) l_L_law_1900 1901 rfl c_1 ?_
  have o1 := h.1
  replace h := h.2
  refine nw_iadd l_L_law_1901 1902 rfl o1 ?_
  have o2 := h.1
  replace h := h.2
  refine nw_sald l_L_law_1902 1903 rfl o2 ?_
  refine nw_aload_n l_L_law_1903 1904 rfl rfl ?_
  refine nw_call 5 4 24 0 l_L_law_1904 rfl rfl g_L_bestLoadByTable (Nat.lt_of_lt_of_le (by decide) hD) rfl (by omega) (by omega) True.intro (ls' := [some (.inr (.inl (some 0))), some (.inl (nw_sc sc (x5 + 1))), some (.inr (.inl (some 314))), none]) rfl (st' := []) rfl 1907 rfl (c' := (c - 4)) (by omega) (sl' := (sl - 24)) (by omega) ?_
  exact h
theorem b_L_law_1952 {x5 : Int} (hD : 18 ≤ D) (hc : 4 ≤ c) (hs : 24 ≤ sl) (h : ((-2147483648 ≤ x5 + 1 ∧ x5 + 1 < 2147483648) ∧ ((0 ≤ x5 + 1 ∧ x5 + 1 < (sc.1 : Int)) ∧ NW sc d_L_rescue 5 (0, [some (.inr (.inl (some 0))), some (.inl (nw_sc sc (x5 + 1))), some (.inr (.inl (some 314))), none], [], (J, L, W), 4, 24) (fun v M9 => NW sc d_L_law D (1963, [some (.inr (.inl (some 1000000))), some (.inr (.inl (some 0))), some (.inr (.inl (some 303))), some (.inr (.inl (some 314))), some (.inr (.inl (some 315))), some (.inl x5), none, none, none], nw_push v [], M9, (c - 4), (sl - 24)) Qr Qx) Qx))) :
    NW sc d_L_law D (1952, [some (.inr (.inl (some 1000000))), some (.inr (.inl (some 0))), some (.inr (.inl (some 303))), some (.inr (.inl (some 314))), some (.inr (.inl (some 315))), some (.inl x5), none, none, none], [], (J, L, W), c, sl) Qr Qx := by
  refine nw_aload_n l_L_law_1952 1953 rfl rfl ?_
  refine nw_aload_n l_L_law_1953 1954 rfl rfl ?_
  refine nw_iload l_L_law_1954 1956 rfl rfl ?_
  refine nw_iconst (len := 0) l_L_law_1956 1957 rfl c_1 ?_
  have o1 := h.1
  replace h := h.2
  refine nw_iadd l_L_law_1957 1958 rfl o1 ?_
  have o2 := h.1
  replace h := h.2
  refine nw_sald l_L_law_1958 1959 rfl o2 ?_
  refine nw_aload_n l_L_law_1959 1960 rfl rfl ?_
  refine nw_call 5 4 24 0 l_L_law_1960 rfl rfl g_L_rescue (Nat.lt_of_lt_of_le (by decide) hD) rfl (by omega) (by omega) True.intro (ls' := [some (.inr (.inl (some 0))), some (.inl (nw_sc sc (x5 + 1))), some (.inr (.inl (some 314))), none]) rfl (st' := []) rfl 1963 rfl (c' := (c - 4)) (by omega) (sl' := (sl - 24)) (by omega) ?_
  exact h
theorem b_L_law_2008 {x5 : Int} (hD : 18 ≤ D) (h : NW sc d_X11_moonCount 0 (0, [some (.inr (.inl (some 0)))], [], (J, L, W), 0, 0) (fun v M9 => NW sc d_L_law D (2012, [some (.inr (.inl (some 1000000))), some (.inr (.inl (some 0))), some (.inr (.inl (some 303))), some (.inr (.inl (some 314))), some (.inr (.inl (some 315))), some (.inl x5), none, none, none], nw_push v [], M9, c, sl) Qr Qx) Qx) :
    NW sc d_L_law D (2008, [some (.inr (.inl (some 1000000))), some (.inr (.inl (some 0))), some (.inr (.inl (some 303))), some (.inr (.inl (some 314))), some (.inr (.inl (some 315))), some (.inl x5), none, none, none], [], (J, L, W), c, sl) Qr Qx := by
  refine nw_aload_n l_L_law_2008 2009 rfl rfl ?_
  refine nw_call0 0 0 l_L_law_2009 rfl rfl g_X11_moonCount (Nat.lt_of_lt_of_le (by decide) hD) rfl (Or.inl ⟨_, rfl, k_0⟩) (ls' := [some (.inr (.inl (some 0)))]) rfl (st' := []) rfl 2012 rfl ?_
  exact h
theorem b_L_law_2021 {x5 : Int} (hD : 18 ≤ D) (hc : 4 ≤ c) (hs : 24 ≤ sl) (h : ((-2147483648 ≤ x5 + 1 ∧ x5 + 1 < 2147483648) ∧ ((0 ≤ x5 + 1 ∧ x5 + 1 < (sc.1 : Int)) ∧ NW sc d_L_moonAt 1 (0, [some (.inr (.inl (some 0))), some (.inl (nw_sc sc (x5 + 1))), some (.inr (.inl (some 314))), none], [], (J, L, W), 4, 24) (fun v M9 => NW sc d_L_law D (2032, [some (.inr (.inl (some 1000000))), some (.inr (.inl (some 0))), some (.inr (.inl (some 303))), some (.inr (.inl (some 314))), some (.inr (.inl (some 315))), some (.inl x5), none, none, none], nw_push v [], M9, (c - 4), (sl - 24)) Qr Qx) Qx))) :
    NW sc d_L_law D (2021, [some (.inr (.inl (some 1000000))), some (.inr (.inl (some 0))), some (.inr (.inl (some 303))), some (.inr (.inl (some 314))), some (.inr (.inl (some 315))), some (.inl x5), none, none, none], [], (J, L, W), c, sl) Qr Qx := by
  refine nw_aload_n l_L_law_2021 2022 rfl rfl ?_
  refine nw_aload_n l_L_law_2022 2023 rfl rfl ?_
  refine nw_iload l_L_law_2023 2025 rfl rfl ?_
  refine nw_iconst (len := 0) l_L_law_2025 2026 rfl c_1 ?_
  have o1 := h.1
  replace h := h.2
  refine nw_iadd l_L_law_2026 2027 rfl o1 ?_
  have o2 := h.1
  replace h := h.2
  refine nw_sald l_L_law_2027 2028 rfl o2 ?_
  refine nw_aload_n l_L_law_2028 2029 rfl rfl ?_
  refine nw_call 1 4 24 0 l_L_law_2029 rfl rfl g_L_moonAt (Nat.lt_of_lt_of_le (by decide) hD) rfl (by omega) (by omega) True.intro (ls' := [some (.inr (.inl (some 0))), some (.inl (nw_sc sc (x5 + 1))), some (.inr (.inl (some 314))), none]) rfl (st' := []) rfl 2032 rfl (c' := (c - 4)) (by omega) (sl' := (sl - 24)) (by omega) ?_
  exact h
theorem b_L_law_2077 {x5 : Int} (hD : 18 ≤ D) (hc : 4 ≤ c) (hs : 24 ≤ sl) (h : ((-2147483648 ≤ x5 + 1 ∧ x5 + 1 < 2147483648) ∧ ((0 ≤ x5 + 1 ∧ x5 + 1 < (sc.1 : Int)) ∧ NW sc d_L_ferryOf 3 (0, [some (.inr (.inl (some 0))), some (.inl (nw_sc sc (x5 + 1))), some (.inr (.inl (some 314))), none], [], (J, L, W), 4, 24) (fun v M9 => NW sc d_L_law D (2088, [some (.inr (.inl (some 1000000))), some (.inr (.inl (some 0))), some (.inr (.inl (some 303))), some (.inr (.inl (some 314))), some (.inr (.inl (some 315))), some (.inl x5), none, none, none], nw_push v [], M9, (c - 4), (sl - 24)) Qr Qx) Qx))) :
    NW sc d_L_law D (2077, [some (.inr (.inl (some 1000000))), some (.inr (.inl (some 0))), some (.inr (.inl (some 303))), some (.inr (.inl (some 314))), some (.inr (.inl (some 315))), some (.inl x5), none, none, none], [], (J, L, W), c, sl) Qr Qx := by
  refine nw_aload_n l_L_law_2077 2078 rfl rfl ?_
  refine nw_aload_n l_L_law_2078 2079 rfl rfl ?_
  refine nw_iload l_L_law_2079 2081 rfl rfl ?_
  refine nw_iconst (len := 0) l_L_law_2081 2082 rfl c_1 ?_
  have o1 := h.1
  replace h := h.2
  refine nw_iadd l_L_law_2082 2083 rfl o1 ?_
  have o2 := h.1
  replace h := h.2
  refine nw_sald l_L_law_2083 2084 rfl o2 ?_
  refine nw_aload_n l_L_law_2084 2085 rfl rfl ?_
  refine nw_call 3 4 24 0 l_L_law_2085 rfl rfl g_L_ferryOf (Nat.lt_of_lt_of_le (by decide) hD) rfl (by omega) (by omega) True.intro (ls' := [some (.inr (.inl (some 0))), some (.inl (nw_sc sc (x5 + 1))), some (.inr (.inl (some 314))), none]) rfl (st' := []) rfl 2088 rfl (c' := (c - 4)) (by omega) (sl' := (sl - 24)) (by omega) ?_
  exact h
theorem b_L_law_2133 {x5 : Int} (hD : 18 ≤ D) (hc : 4 ≤ c) (hs : 24 ≤ sl) (h : ((-2147483648 ≤ x5 + 1 ∧ x5 + 1 < 2147483648) ∧ ((0 ≤ x5 + 1 ∧ x5 + 1 < (sc.1 : Int)) ∧ NW sc d_L_shoreOf 3 (0, [some (.inr (.inl (some 0))), some (.inl (nw_sc sc (x5 + 1))), some (.inr (.inl (some 314))), none], [], (J, L, W), 4, 24) (fun v M9 => NW sc d_L_law D (2144, [some (.inr (.inl (some 1000000))), some (.inr (.inl (some 0))), some (.inr (.inl (some 303))), some (.inr (.inl (some 314))), some (.inr (.inl (some 315))), some (.inl x5), none, none, none], nw_push v [], M9, (c - 4), (sl - 24)) Qr Qx) Qx))) :
    NW sc d_L_law D (2133, [some (.inr (.inl (some 1000000))), some (.inr (.inl (some 0))), some (.inr (.inl (some 303))), some (.inr (.inl (some 314))), some (.inr (.inl (some 315))), some (.inl x5), none, none, none], [], (J, L, W), c, sl) Qr Qx := by
  refine nw_aload_n l_L_law_2133 2134 rfl rfl ?_
  refine nw_aload_n l_L_law_2134 2135 rfl rfl ?_
  refine nw_iload l_L_law_2135 2137 rfl rfl ?_
  refine nw_iconst (len := 0) l_L_law_2137 2138 rfl c_1 ?_
  have o1 := h.1
  replace h := h.2
  refine nw_iadd l_L_law_2138 2139 rfl o1 ?_
  have o2 := h.1
  replace h := h.2
  refine nw_sald l_L_law_2139 2140 rfl o2 ?_
  refine nw_aload_n l_L_law_2140 2141 rfl rfl ?_
  refine nw_call 3 4 24 0 l_L_law_2141 rfl rfl g_L_shoreOf (Nat.lt_of_lt_of_le (by decide) hD) rfl (by omega) (by omega) True.intro (ls' := [some (.inr (.inl (some 0))), some (.inl (nw_sc sc (x5 + 1))), some (.inr (.inl (some 314))), none]) rfl (st' := []) rfl 2144 rfl (c' := (c - 4)) (by omega) (sl' := (sl - 24)) (by omega) ?_
  exact h
theorem b_L_law_2189 {x5 : Int} (hD : 18 ≤ D) (hc : 4 ≤ c) (hs : 24 ≤ sl) (h : ((-2147483648 ≤ x5 + 1 ∧ x5 + 1 < 2147483648) ∧ ((0 ≤ x5 + 1 ∧ x5 + 1 < (sc.1 : Int)) ∧ NW sc d_L_phaseOf 3 (0, [some (.inr (.inl (some 0))), some (.inl (nw_sc sc (x5 + 1))), some (.inr (.inl (some 314))), none], [], (J, L, W), 4, 24) (fun v M9 => NW sc d_L_law D (2200, [some (.inr (.inl (some 1000000))), some (.inr (.inl (some 0))), some (.inr (.inl (some 303))), some (.inr (.inl (some 314))), some (.inr (.inl (some 315))), some (.inl x5), none, none, none], nw_push v [], M9, (c - 4), (sl - 24)) Qr Qx) Qx))) :
    NW sc d_L_law D (2189, [some (.inr (.inl (some 1000000))), some (.inr (.inl (some 0))), some (.inr (.inl (some 303))), some (.inr (.inl (some 314))), some (.inr (.inl (some 315))), some (.inl x5), none, none, none], [], (J, L, W), c, sl) Qr Qx := by
  refine nw_aload_n l_L_law_2189 2190 rfl rfl ?_
  refine nw_aload_n l_L_law_2190 2191 rfl rfl ?_
  refine nw_iload l_L_law_2191 2193 rfl rfl ?_
  refine nw_iconst (len := 0) l_L_law_2193 2194 rfl c_1 ?_
  have o1 := h.1
  replace h := h.2
  refine nw_iadd l_L_law_2194 2195 rfl o1 ?_
  have o2 := h.1
  replace h := h.2
  refine nw_sald l_L_law_2195 2196 rfl o2 ?_
  refine nw_aload_n l_L_law_2196 2197 rfl rfl ?_
  refine nw_call 3 4 24 0 l_L_law_2197 rfl rfl g_L_phaseOf (Nat.lt_of_lt_of_le (by decide) hD) rfl (by omega) (by omega) True.intro (ls' := [some (.inr (.inl (some 0))), some (.inl (nw_sc sc (x5 + 1))), some (.inr (.inl (some 314))), none]) rfl (st' := []) rfl 2200 rfl (c' := (c - 4)) (by omega) (sl' := (sl - 24)) (by omega) ?_
  exact h
theorem b_L_law_2245 {x5 : Int} (hD : 18 ≤ D) (hc : 4 ≤ c) (hs : 24 ≤ sl) (h : ((-2147483648 ≤ x5 + 1 ∧ x5 + 1 < 2147483648) ∧ ((0 ≤ x5 + 1 ∧ x5 + 1 < (sc.1 : Int)) ∧ NW sc d_L_fareOf 4 (0, [some (.inr (.inl (some 0))), some (.inl (nw_sc sc (x5 + 1))), some (.inr (.inl (some 314))), none], [], (J, L, W), 4, 24) (fun v M9 => NW sc d_L_law D (2256, [some (.inr (.inl (some 1000000))), some (.inr (.inl (some 0))), some (.inr (.inl (some 303))), some (.inr (.inl (some 314))), some (.inr (.inl (some 315))), some (.inl x5), none, none, none], nw_push v [], M9, (c - 4), (sl - 24)) Qr Qx) Qx))) :
    NW sc d_L_law D (2245, [some (.inr (.inl (some 1000000))), some (.inr (.inl (some 0))), some (.inr (.inl (some 303))), some (.inr (.inl (some 314))), some (.inr (.inl (some 315))), some (.inl x5), none, none, none], [], (J, L, W), c, sl) Qr Qx := by
  refine nw_aload_n l_L_law_2245 2246 rfl rfl ?_
  refine nw_aload_n l_L_law_2246 2247 rfl rfl ?_
  refine nw_iload l_L_law_2247 2249 rfl rfl ?_
  refine nw_iconst (len := 0) l_L_law_2249 2250 rfl c_1 ?_
  have o1 := h.1
  replace h := h.2
  refine nw_iadd l_L_law_2250 2251 rfl o1 ?_
  have o2 := h.1
  replace h := h.2
  refine nw_sald l_L_law_2251 2252 rfl o2 ?_
  refine nw_aload_n l_L_law_2252 2253 rfl rfl ?_
  refine nw_call 4 4 24 0 l_L_law_2253 rfl rfl g_L_fareOf (Nat.lt_of_lt_of_le (by decide) hD) rfl (by omega) (by omega) True.intro (ls' := [some (.inr (.inl (some 0))), some (.inl (nw_sc sc (x5 + 1))), some (.inr (.inl (some 314))), none]) rfl (st' := []) rfl 2256 rfl (c' := (c - 4)) (by omega) (sl' := (sl - 24)) (by omega) ?_
  exact h
theorem b_L_law_2301 {x5 : Int} (hD : 18 ≤ D) (hc : 4 ≤ c) (hs : 24 ≤ sl) (h : ((-2147483648 ≤ x5 + 1 ∧ x5 + 1 < 2147483648) ∧ ((0 ≤ x5 + 1 ∧ x5 + 1 < (sc.1 : Int)) ∧ NW sc d_L_moonAtRank 5 (0, [some (.inr (.inl (some 0))), some (.inl (nw_sc sc (x5 + 1))), some (.inr (.inl (some 314))), none], [], (J, L, W), 4, 24) (fun v M9 => NW sc d_L_law D (2312, [some (.inr (.inl (some 1000000))), some (.inr (.inl (some 0))), some (.inr (.inl (some 303))), some (.inr (.inl (some 314))), some (.inr (.inl (some 315))), some (.inl x5), none, none, none], nw_push v [], M9, (c - 4), (sl - 24)) Qr Qx) Qx))) :
    NW sc d_L_law D (2301, [some (.inr (.inl (some 1000000))), some (.inr (.inl (some 0))), some (.inr (.inl (some 303))), some (.inr (.inl (some 314))), some (.inr (.inl (some 315))), some (.inl x5), none, none, none], [], (J, L, W), c, sl) Qr Qx := by
  refine nw_aload_n l_L_law_2301 2302 rfl rfl ?_
  refine nw_aload_n l_L_law_2302 2303 rfl rfl ?_
  refine nw_iload l_L_law_2303 2305 rfl rfl ?_
  refine nw_iconst (len := 0) l_L_law_2305 2306 rfl c_1 ?_
  have o1 := h.1
  replace h := h.2
  refine nw_iadd l_L_law_2306 2307 rfl o1 ?_
  have o2 := h.1
  replace h := h.2
  refine nw_sald l_L_law_2307 2308 rfl o2 ?_
  refine nw_aload_n l_L_law_2308 2309 rfl rfl ?_
  refine nw_call 5 4 24 0 l_L_law_2309 rfl rfl g_L_moonAtRank (Nat.lt_of_lt_of_le (by decide) hD) rfl (by omega) (by omega) True.intro (ls' := [some (.inr (.inl (some 0))), some (.inl (nw_sc sc (x5 + 1))), some (.inr (.inl (some 314))), none]) rfl (st' := []) rfl 2312 rfl (c' := (c - 4)) (by omega) (sl' := (sl - 24)) (by omega) ?_
  exact h
theorem b_L_law_2357 {x5 : Int} (hD : 18 ≤ D) (h : ((-2147483648 ≤ x5 + 1 ∧ x5 + 1 < 2147483648) ∧ ((0 ≤ x5 + 1 ∧ x5 + 1 < (sc.1 : Int)) ∧ NW sc d_X11_countBelow 4 (0, [some (.inr (.inl (some 0))), some (.inl (nw_sc sc (x5 + 1)))], [], (J, L, W), 0, 0) (fun v M9 => NW sc d_L_law D (2367, [some (.inr (.inl (some 1000000))), some (.inr (.inl (some 0))), some (.inr (.inl (some 303))), some (.inr (.inl (some 314))), some (.inr (.inl (some 315))), some (.inl x5), none, none, none], nw_push v [], M9, c, sl) Qr Qx) Qx))) :
    NW sc d_L_law D (2357, [some (.inr (.inl (some 1000000))), some (.inr (.inl (some 0))), some (.inr (.inl (some 303))), some (.inr (.inl (some 314))), some (.inr (.inl (some 315))), some (.inl x5), none, none, none], [], (J, L, W), c, sl) Qr Qx := by
  refine nw_aload_n l_L_law_2357 2358 rfl rfl ?_
  refine nw_aload_n l_L_law_2358 2359 rfl rfl ?_
  refine nw_iload l_L_law_2359 2361 rfl rfl ?_
  refine nw_iconst (len := 0) l_L_law_2361 2362 rfl c_1 ?_
  have o1 := h.1
  replace h := h.2
  refine nw_iadd l_L_law_2362 2363 rfl o1 ?_
  have o2 := h.1
  replace h := h.2
  refine nw_sald l_L_law_2363 2364 rfl o2 ?_
  refine nw_call0 4 0 l_L_law_2364 rfl rfl g_X11_countBelow (Nat.lt_of_lt_of_le (by decide) hD) rfl (Or.inl ⟨_, rfl, k_0⟩) (ls' := [some (.inr (.inl (some 0))), some (.inl (nw_sc sc (x5 + 1)))]) rfl (st' := []) rfl 2367 rfl ?_
  exact h
theorem b_L_law_2382 {x5 : Int} (hD : 18 ≤ D) (h : ((-2147483648 ≤ x5 + 1 ∧ x5 + 1 < 2147483648) ∧ ((0 ≤ x5 + 1 ∧ x5 + 1 < (sc.1 : Int)) ∧ NW sc d_X11_countBelowByAsking 4 (0, [some (.inr (.inl (some 0))), some (.inl (nw_sc sc (x5 + 1)))], [], (J, L, W), 0, 0) (fun v M9 => NW sc d_L_law D (2392, [some (.inr (.inl (some 1000000))), some (.inr (.inl (some 0))), some (.inr (.inl (some 303))), some (.inr (.inl (some 314))), some (.inr (.inl (some 315))), some (.inl x5), none, none, none], nw_push v [], M9, c, sl) Qr Qx) Qx))) :
    NW sc d_L_law D (2382, [some (.inr (.inl (some 1000000))), some (.inr (.inl (some 0))), some (.inr (.inl (some 303))), some (.inr (.inl (some 314))), some (.inr (.inl (some 315))), some (.inl x5), none, none, none], [], (J, L, W), c, sl) Qr Qx := by
  refine nw_aload_n l_L_law_2382 2383 rfl rfl ?_
  refine nw_aload_n l_L_law_2383 2384 rfl rfl ?_
  refine nw_iload l_L_law_2384 2386 rfl rfl ?_
  refine nw_iconst (len := 0) l_L_law_2386 2387 rfl c_1 ?_
  have o1 := h.1
  replace h := h.2
  refine nw_iadd l_L_law_2387 2388 rfl o1 ?_
  have o2 := h.1
  replace h := h.2
  refine nw_sald l_L_law_2388 2389 rfl o2 ?_
  refine nw_call0 4 0 l_L_law_2389 rfl rfl g_X11_countBelowByAsking (Nat.lt_of_lt_of_le (by decide) hD) rfl (Or.inl ⟨_, rfl, k_0⟩) (ls' := [some (.inr (.inl (some 0))), some (.inl (nw_sc sc (x5 + 1)))]) rfl (st' := []) rfl 2392 rfl ?_
  exact h
theorem b_L_law_2407 {x5 : Int} (hD : 18 ≤ D) (hc : 4 ≤ c) (hs : 24 ≤ sl) (h : ((-2147483648 ≤ x5 + 1 ∧ x5 + 1 < 2147483648) ∧ ((0 ≤ x5 + 1 ∧ x5 + 1 < (sc.1 : Int)) ∧ NW sc d_L_pass 6 (0, [some (.inr (.inl (some 0))), some (.inl (nw_sc sc (x5 + 1))), some (.inr (.inl (some 314))), none], [], (J, L, W), 4, 24) (fun v M9 => NW sc d_L_law D (2418, [some (.inr (.inl (some 1000000))), some (.inr (.inl (some 0))), some (.inr (.inl (some 303))), some (.inr (.inl (some 314))), some (.inr (.inl (some 315))), some (.inl x5), none, none, none], nw_push v [], M9, (c - 4), (sl - 24)) Qr Qx) Qx))) :
    NW sc d_L_law D (2407, [some (.inr (.inl (some 1000000))), some (.inr (.inl (some 0))), some (.inr (.inl (some 303))), some (.inr (.inl (some 314))), some (.inr (.inl (some 315))), some (.inl x5), none, none, none], [], (J, L, W), c, sl) Qr Qx := by
  refine nw_aload_n l_L_law_2407 2408 rfl rfl ?_
  refine nw_aload_n l_L_law_2408 2409 rfl rfl ?_
  refine nw_iload l_L_law_2409 2411 rfl rfl ?_
  refine nw_iconst (len := 0) l_L_law_2411 2412 rfl c_1 ?_
  have o1 := h.1
  replace h := h.2
  refine nw_iadd l_L_law_2412 2413 rfl o1 ?_
  have o2 := h.1
  replace h := h.2
  refine nw_sald l_L_law_2413 2414 rfl o2 ?_
  refine nw_aload_n l_L_law_2414 2415 rfl rfl ?_
  refine nw_call 6 4 24 0 l_L_law_2415 rfl rfl g_L_pass (Nat.lt_of_lt_of_le (by decide) hD) rfl (by omega) (by omega) True.intro (ls' := [some (.inr (.inl (some 0))), some (.inl (nw_sc sc (x5 + 1))), some (.inr (.inl (some 314))), none]) rfl (st' := []) rfl 2418 rfl (c' := (c - 4)) (by omega) (sl' := (sl - 24)) (by omega) ?_
  exact h
theorem b_L_law_2463 {x5 : Int} (hD : 18 ≤ D) (h : NW sc d_X11_hour 0 (0, [some (.inr (.inl (some 0)))], [], (J, L, W), 0, 0) (fun v M9 => NW sc d_L_law D (2467, [some (.inr (.inl (some 1000000))), some (.inr (.inl (some 0))), some (.inr (.inl (some 303))), some (.inr (.inl (some 314))), some (.inr (.inl (some 315))), some (.inl x5), none, none, none], nw_push v [], M9, c, sl) Qr Qx) Qx) :
    NW sc d_L_law D (2463, [some (.inr (.inl (some 1000000))), some (.inr (.inl (some 0))), some (.inr (.inl (some 303))), some (.inr (.inl (some 314))), some (.inr (.inl (some 315))), some (.inl x5), none, none, none], [], (J, L, W), c, sl) Qr Qx := by
  refine nw_aload_n l_L_law_2463 2464 rfl rfl ?_
  refine nw_call0 0 0 l_L_law_2464 rfl rfl g_X11_hour (Nat.lt_of_lt_of_le (by decide) hD) rfl (Or.inl ⟨_, rfl, k_0⟩) (ls' := [some (.inr (.inl (some 0)))]) rfl (st' := []) rfl 2467 rfl ?_
  exact h
theorem b_L_law_2476 {x5 : Int} (hD : 18 ≤ D) (hc : 4 ≤ c) (hs : 24 ≤ sl) (h : NW sc d_L_refusalReason 2 (0, [some (.inr (.inl (some 0))), some (.inr (.inl (some 314))), none], [], (J, L, W), 4, 24) (fun v M9 => NW sc d_L_law D (2481, [some (.inr (.inl (some 1000000))), some (.inr (.inl (some 0))), some (.inr (.inl (some 303))), some (.inr (.inl (some 314))), some (.inr (.inl (some 315))), some (.inl x5), none, none, none], nw_push v [], M9, (c - 4), (sl - 24)) Qr Qx) Qx) :
    NW sc d_L_law D (2476, [some (.inr (.inl (some 1000000))), some (.inr (.inl (some 0))), some (.inr (.inl (some 303))), some (.inr (.inl (some 314))), some (.inr (.inl (some 315))), some (.inl x5), none, none, none], [], (J, L, W), c, sl) Qr Qx := by
  refine nw_aload_n l_L_law_2476 2477 rfl rfl ?_
  refine nw_aload_n l_L_law_2477 2478 rfl rfl ?_
  refine nw_call 2 4 24 0 l_L_law_2478 rfl rfl g_L_refusalReason (Nat.lt_of_lt_of_le (by decide) hD) rfl (by omega) (by omega) True.intro (ls' := [some (.inr (.inl (some 0))), some (.inr (.inl (some 314))), none]) rfl (st' := []) rfl 2481 rfl (c' := (c - 4)) (by omega) (sl' := (sl - 24)) (by omega) ?_
  exact h
theorem b_L_law_2520 {x5 : Int} (hD : 18 ≤ D) (h : NW sc d_X11_passageCount 0 (0, [some (.inr (.inl (some 0)))], [], (J, L, W), 0, 0) (fun v M9 => NW sc d_L_law D (2524, [some (.inr (.inl (some 1000000))), some (.inr (.inl (some 0))), some (.inr (.inl (some 303))), some (.inr (.inl (some 314))), some (.inr (.inl (some 315))), some (.inl x5), none, none, none], nw_push v [], M9, c, sl) Qr Qx) Qx) :
    NW sc d_L_law D (2520, [some (.inr (.inl (some 1000000))), some (.inr (.inl (some 0))), some (.inr (.inl (some 303))), some (.inr (.inl (some 314))), some (.inr (.inl (some 315))), some (.inl x5), none, none, none], [], (J, L, W), c, sl) Qr Qx := by
  refine nw_aload_n l_L_law_2520 2521 rfl rfl ?_
  refine nw_call0 0 0 l_L_law_2521 rfl rfl g_X11_passageCount (Nat.lt_of_lt_of_le (by decide) hD) rfl (Or.inl ⟨_, rfl, k_0⟩) (ls' := [some (.inr (.inl (some 0)))]) rfl (st' := []) rfl 2524 rfl ?_
  exact h
theorem b_L_law_2533 {x5 : Int} (hD : 18 ≤ D) (hc : 4 ≤ c) (hs : 24 ≤ sl) (h : ((-2147483648 ≤ x5 + 1 ∧ x5 + 1 < 2147483648) ∧ ((0 ≤ x5 + 1 ∧ x5 + 1 < (sc.1 : Int)) ∧ NW sc d_L_passageFerry 3 (0, [some (.inr (.inl (some 0))), some (.inl (nw_sc sc (x5 + 1))), some (.inr (.inl (some 314))), none], [], (J, L, W), 4, 24) (fun v M9 => NW sc d_L_law D (2544, [some (.inr (.inl (some 1000000))), some (.inr (.inl (some 0))), some (.inr (.inl (some 303))), some (.inr (.inl (some 314))), some (.inr (.inl (some 315))), some (.inl x5), none, none, none], nw_push v [], M9, (c - 4), (sl - 24)) Qr Qx) Qx))) :
    NW sc d_L_law D (2533, [some (.inr (.inl (some 1000000))), some (.inr (.inl (some 0))), some (.inr (.inl (some 303))), some (.inr (.inl (some 314))), some (.inr (.inl (some 315))), some (.inl x5), none, none, none], [], (J, L, W), c, sl) Qr Qx := by
  refine nw_aload_n l_L_law_2533 2534 rfl rfl ?_
  refine nw_aload_n l_L_law_2534 2535 rfl rfl ?_
  refine nw_iload l_L_law_2535 2537 rfl rfl ?_
  refine nw_iconst (len := 0) l_L_law_2537 2538 rfl c_1 ?_
  have o1 := h.1
  replace h := h.2
  refine nw_iadd l_L_law_2538 2539 rfl o1 ?_
  have o2 := h.1
  replace h := h.2
  refine nw_sald l_L_law_2539 2540 rfl o2 ?_
  refine nw_aload_n l_L_law_2540 2541 rfl rfl ?_
  refine nw_call 3 4 24 0 l_L_law_2541 rfl rfl g_L_passageFerry (Nat.lt_of_lt_of_le (by decide) hD) rfl (by omega) (by omega) True.intro (ls' := [some (.inr (.inl (some 0))), some (.inl (nw_sc sc (x5 + 1))), some (.inr (.inl (some 314))), none]) rfl (st' := []) rfl 2544 rfl (c' := (c - 4)) (by omega) (sl' := (sl - 24)) (by omega) ?_
  exact h
theorem b_L_law_2589 {x5 : Int} (hD : 18 ≤ D) (hc : 4 ≤ c) (hs : 24 ≤ sl) (h : ((-2147483648 ≤ x5 + 1 ∧ x5 + 1 < 2147483648) ∧ ((0 ≤ x5 + 1 ∧ x5 + 1 < (sc.1 : Int)) ∧ NW sc d_L_passageCrater 3 (0, [some (.inr (.inl (some 0))), some (.inl (nw_sc sc (x5 + 1))), some (.inr (.inl (some 314))), none], [], (J, L, W), 4, 24) (fun v M9 => NW sc d_L_law D (2600, [some (.inr (.inl (some 1000000))), some (.inr (.inl (some 0))), some (.inr (.inl (some 303))), some (.inr (.inl (some 314))), some (.inr (.inl (some 315))), some (.inl x5), none, none, none], nw_push v [], M9, (c - 4), (sl - 24)) Qr Qx) Qx))) :
    NW sc d_L_law D (2589, [some (.inr (.inl (some 1000000))), some (.inr (.inl (some 0))), some (.inr (.inl (some 303))), some (.inr (.inl (some 314))), some (.inr (.inl (some 315))), some (.inl x5), none, none, none], [], (J, L, W), c, sl) Qr Qx := by
  refine nw_aload_n l_L_law_2589 2590 rfl rfl ?_
  refine nw_aload_n l_L_law_2590 2591 rfl rfl ?_
  refine nw_iload l_L_law_2591 2593 rfl rfl ?_
  refine nw_iconst (len := 0) l_L_law_2593 2594 rfl c_1 ?_
  have o1 := h.1
  replace h := h.2
  refine nw_iadd l_L_law_2594 2595 rfl o1 ?_
  have o2 := h.1
  replace h := h.2
  refine nw_sald l_L_law_2595 2596 rfl o2 ?_
  refine nw_aload_n l_L_law_2596 2597 rfl rfl ?_
  refine nw_call 3 4 24 0 l_L_law_2597 rfl rfl g_L_passageCrater (Nat.lt_of_lt_of_le (by decide) hD) rfl (by omega) (by omega) True.intro (ls' := [some (.inr (.inl (some 0))), some (.inl (nw_sc sc (x5 + 1))), some (.inr (.inl (some 314))), none]) rfl (st' := []) rfl 2600 rfl (c' := (c - 4)) (by omega) (sl' := (sl - 24)) (by omega) ?_
  exact h
theorem b_L_law_2645 {x5 : Int} (hD : 18 ≤ D) (hc : 4 ≤ c) (hs : 24 ≤ sl) (h : ((-2147483648 ≤ x5 + 1 ∧ x5 + 1 < 2147483648) ∧ ((0 ≤ x5 + 1 ∧ x5 + 1 < (sc.1 : Int)) ∧ NW sc d_L_passageHour 3 (0, [some (.inr (.inl (some 0))), some (.inl (nw_sc sc (x5 + 1))), some (.inr (.inl (some 314))), none], [], (J, L, W), 4, 24) (fun v M9 => NW sc d_L_law D (2656, [some (.inr (.inl (some 1000000))), some (.inr (.inl (some 0))), some (.inr (.inl (some 303))), some (.inr (.inl (some 314))), some (.inr (.inl (some 315))), some (.inl x5), none, none, none], nw_push v [], M9, (c - 4), (sl - 24)) Qr Qx) Qx))) :
    NW sc d_L_law D (2645, [some (.inr (.inl (some 1000000))), some (.inr (.inl (some 0))), some (.inr (.inl (some 303))), some (.inr (.inl (some 314))), some (.inr (.inl (some 315))), some (.inl x5), none, none, none], [], (J, L, W), c, sl) Qr Qx := by
  refine nw_aload_n l_L_law_2645 2646 rfl rfl ?_
  refine nw_aload_n l_L_law_2646 2647 rfl rfl ?_
  refine nw_iload l_L_law_2647 2649 rfl rfl ?_
  refine nw_iconst (len := 0) l_L_law_2649 2650 rfl c_1 ?_
  have o1 := h.1
  replace h := h.2
  refine nw_iadd l_L_law_2650 2651 rfl o1 ?_
  have o2 := h.1
  replace h := h.2
  refine nw_sald l_L_law_2651 2652 rfl o2 ?_
  refine nw_aload_n l_L_law_2652 2653 rfl rfl ?_
  refine nw_call 3 4 24 0 l_L_law_2653 rfl rfl g_L_passageHour (Nat.lt_of_lt_of_le (by decide) hD) rfl (by omega) (by omega) True.intro (ls' := [some (.inr (.inl (some 0))), some (.inl (nw_sc sc (x5 + 1))), some (.inr (.inl (some 314))), none]) rfl (st' := []) rfl 2656 rfl (c' := (c - 4)) (by omega) (sl' := (sl - 24)) (by omega) ?_
  exact h
theorem b_L_law_2701 {x5 : Int} (hD : 18 ≤ D) (h : NW sc d_X11_strandingCount 0 (0, [some (.inr (.inl (some 0)))], [], (J, L, W), 0, 0) (fun v M9 => NW sc d_L_law D (2705, [some (.inr (.inl (some 1000000))), some (.inr (.inl (some 0))), some (.inr (.inl (some 303))), some (.inr (.inl (some 314))), some (.inr (.inl (some 315))), some (.inl x5), none, none, none], nw_push v [], M9, c, sl) Qr Qx) Qx) :
    NW sc d_L_law D (2701, [some (.inr (.inl (some 1000000))), some (.inr (.inl (some 0))), some (.inr (.inl (some 303))), some (.inr (.inl (some 314))), some (.inr (.inl (some 315))), some (.inl x5), none, none, none], [], (J, L, W), c, sl) Qr Qx := by
  refine nw_aload_n l_L_law_2701 2702 rfl rfl ?_
  refine nw_call0 0 0 l_L_law_2702 rfl rfl g_X11_strandingCount (Nat.lt_of_lt_of_le (by decide) hD) rfl (Or.inl ⟨_, rfl, k_0⟩) (ls' := [some (.inr (.inl (some 0)))]) rfl (st' := []) rfl 2705 rfl ?_
  exact h
theorem b_L_law_2714 {x5 : Int} (hD : 18 ≤ D) (h : NW sc d_X11_coins 0 (0, [some (.inr (.inl (some 0)))], [], (J, L, W), 0, 0) (fun v M9 => NW sc d_L_law D (2718, [some (.inr (.inl (some 1000000))), some (.inr (.inl (some 0))), some (.inr (.inl (some 303))), some (.inr (.inl (some 314))), some (.inr (.inl (some 315))), some (.inl x5), none, none, none], nw_push v [], M9, c, sl) Qr Qx) Qx) :
    NW sc d_L_law D (2714, [some (.inr (.inl (some 1000000))), some (.inr (.inl (some 0))), some (.inr (.inl (some 303))), some (.inr (.inl (some 314))), some (.inr (.inl (some 315))), some (.inl x5), none, none, none], [], (J, L, W), c, sl) Qr Qx := by
  refine nw_aload_n l_L_law_2714 2715 rfl rfl ?_
  refine nw_call0 0 0 l_L_law_2715 rfl rfl g_X11_coins (Nat.lt_of_lt_of_le (by decide) hD) rfl (Or.inl ⟨_, rfl, k_0⟩) (ls' := [some (.inr (.inl (some 0)))]) rfl (st' := []) rfl 2718 rfl ?_
  exact h
theorem b_L_law_2728 {x5 : Int} (hD : 18 ≤ D) (h : NW sc d_X11_fareTotal 0 (0, [some (.inr (.inl (some 0)))], [], (J, L, W), 0, 0) (fun v M9 => NW sc d_L_law D (2732, [some (.inr (.inl (some 1000000))), some (.inr (.inl (some 0))), some (.inr (.inl (some 303))), some (.inr (.inl (some 314))), some (.inr (.inl (some 315))), some (.inl x5), none, none, none], nw_push v [], M9, c, sl) Qr Qx) Qx) :
    NW sc d_L_law D (2728, [some (.inr (.inl (some 1000000))), some (.inr (.inl (some 0))), some (.inr (.inl (some 303))), some (.inr (.inl (some 314))), some (.inr (.inl (some 315))), some (.inl x5), none, none, none], [], (J, L, W), c, sl) Qr Qx := by
  refine nw_aload_n l_L_law_2728 2729 rfl rfl ?_
  refine nw_call0 0 0 l_L_law_2729 rfl rfl g_X11_fareTotal (Nat.lt_of_lt_of_le (by decide) hD) rfl (Or.inl ⟨_, rfl, k_0⟩) (ls' := [some (.inr (.inl (some 0)))]) rfl (st' := []) rfl 2732 rfl ?_
  exact h
theorem b_L_law_2741 {x5 : Int} (hD : 18 ≤ D) (hc : 4 ≤ c) (hs : 24 ≤ sl) (h : ((-2147483648 ≤ x5 + 1 ∧ x5 + 1 < 2147483648) ∧ ((0 ≤ x5 + 1 ∧ x5 + 1 < (sc.1 : Int)) ∧ NW sc d_L_append 2 (0, [some (.inr (.inl (some 0))), some (.inl ((nw_sc sc (x5 + 1)) % 65536)), some (.inr (.inl (some 314))), none], [], (J, L, W), 4, 24) (fun v M9 => NW sc d_L_law D (2753, [some (.inr (.inl (some 1000000))), some (.inr (.inl (some 0))), some (.inr (.inl (some 303))), some (.inr (.inl (some 314))), some (.inr (.inl (some 315))), some (.inl x5), none, none, none], nw_push v [], M9, (c - 4), (sl - 24)) Qr Qx) Qx))) :
    NW sc d_L_law D (2741, [some (.inr (.inl (some 1000000))), some (.inr (.inl (some 0))), some (.inr (.inl (some 303))), some (.inr (.inl (some 314))), some (.inr (.inl (some 315))), some (.inl x5), none, none, none], [], (J, L, W), c, sl) Qr Qx := by
  refine nw_aload_n l_L_law_2741 2742 rfl rfl ?_
  refine nw_aload_n l_L_law_2742 2743 rfl rfl ?_
  refine nw_iload l_L_law_2743 2745 rfl rfl ?_
  refine nw_iconst (len := 0) l_L_law_2745 2746 rfl c_1 ?_
  have o1 := h.1
  replace h := h.2
  refine nw_iadd l_L_law_2746 2747 rfl o1 ?_
  have o2 := h.1
  replace h := h.2
  refine nw_sald l_L_law_2747 2748 rfl o2 ?_
  refine nw_i2c l_L_law_2748 2749 rfl ?_
  refine nw_aload_n l_L_law_2749 2750 rfl rfl ?_
  refine nw_call 2 4 24 0 l_L_law_2750 rfl rfl g_L_append (Nat.lt_of_lt_of_le (by decide) hD) rfl (by omega) (by omega) True.intro (ls' := [some (.inr (.inl (some 0))), some (.inl ((nw_sc sc (x5 + 1)) % 65536)), some (.inr (.inl (some 314))), none]) rfl (st' := []) rfl 2753 rfl (c' := (c - 4)) (by omega) (sl' := (sl - 24)) (by omega) ?_
  exact h
theorem b_L_law_2799 {x5 : Int} (hD : 18 ≤ D) (hc : 4 ≤ c) (hs : 24 ≤ sl) (h : NW sc d_L_run 17 (0, [some (.inr (.inl (some 0))), some (.inr (.inl (some 314))), none], [], (J, L, W), 4, 24) (fun v M9 => NW sc d_L_law D (2804, [some (.inr (.inl (some 1000000))), some (.inr (.inl (some 0))), some (.inr (.inl (some 303))), some (.inr (.inl (some 314))), some (.inr (.inl (some 315))), some (.inl x5), none, none, none], nw_push v [], M9, (c - 4), (sl - 24)) Qr Qx) Qx) :
    NW sc d_L_law D (2799, [some (.inr (.inl (some 1000000))), some (.inr (.inl (some 0))), some (.inr (.inl (some 303))), some (.inr (.inl (some 314))), some (.inr (.inl (some 315))), some (.inl x5), none, none, none], [], (J, L, W), c, sl) Qr Qx := by
  refine nw_aload_n l_L_law_2799 2800 rfl rfl ?_
  refine nw_aload_n l_L_law_2800 2801 rfl rfl ?_
  refine nw_call 17 4 24 0 l_L_law_2801 rfl rfl g_L_run (Nat.lt_of_lt_of_le (by decide) hD) rfl (by omega) (by omega) True.intro (ls' := [some (.inr (.inl (some 0))), some (.inr (.inl (some 314))), none]) rfl (st' := []) rfl 2804 rfl (c' := (c - 4)) (by omega) (sl' := (sl - 24)) (by omega) ?_
  exact h
theorem b_L_law_2843 {x5 : Int} (hD : 18 ≤ D) (hc : 4 ≤ c) (hs : 24 ≤ sl) (h : NW sc d_L_errorPosition 2 (0, [some (.inr (.inl (some 0))), some (.inr (.inl (some 314))), none], [], (J, L, W), 4, 24) (fun v M9 => NW sc d_L_law D (2848, [some (.inr (.inl (some 1000000))), some (.inr (.inl (some 0))), some (.inr (.inl (some 303))), some (.inr (.inl (some 314))), some (.inr (.inl (some 315))), some (.inl x5), none, none, none], nw_push v [], M9, (c - 4), (sl - 24)) Qr Qx) Qx) :
    NW sc d_L_law D (2843, [some (.inr (.inl (some 1000000))), some (.inr (.inl (some 0))), some (.inr (.inl (some 303))), some (.inr (.inl (some 314))), some (.inr (.inl (some 315))), some (.inl x5), none, none, none], [], (J, L, W), c, sl) Qr Qx := by
  refine nw_aload_n l_L_law_2843 2844 rfl rfl ?_
  refine nw_aload_n l_L_law_2844 2845 rfl rfl ?_
  refine nw_call 2 4 24 0 l_L_law_2845 rfl rfl g_L_errorPosition (Nat.lt_of_lt_of_le (by decide) hD) rfl (by omega) (by omega) True.intro (ls' := [some (.inr (.inl (some 0))), some (.inr (.inl (some 314))), none]) rfl (st' := []) rfl 2848 rfl (c' := (c - 4)) (by omega) (sl' := (sl - 24)) (by omega) ?_
  exact h
theorem b_L_law_2887 {x5 : Int} (hD : 18 ≤ D) (hc : 4 ≤ c) (hs : 24 ≤ sl) (h : NW sc d_L_failedCommand 2 (0, [some (.inr (.inl (some 0))), some (.inr (.inl (some 314))), none], [], (J, L, W), 4, 24) (fun v M9 => NW sc d_L_law D (2892, [some (.inr (.inl (some 1000000))), some (.inr (.inl (some 0))), some (.inr (.inl (some 303))), some (.inr (.inl (some 314))), some (.inr (.inl (some 315))), some (.inl x5), none, none, none], nw_push v [], M9, (c - 4), (sl - 24)) Qr Qx) Qx) :
    NW sc d_L_law D (2887, [some (.inr (.inl (some 1000000))), some (.inr (.inl (some 0))), some (.inr (.inl (some 303))), some (.inr (.inl (some 314))), some (.inr (.inl (some 315))), some (.inl x5), none, none, none], [], (J, L, W), c, sl) Qr Qx := by
  refine nw_aload_n l_L_law_2887 2888 rfl rfl ?_
  refine nw_aload_n l_L_law_2888 2889 rfl rfl ?_
  refine nw_call 2 4 24 0 l_L_law_2889 rfl rfl g_L_failedCommand (Nat.lt_of_lt_of_le (by decide) hD) rfl (by omega) (by omega) True.intro (ls' := [some (.inr (.inl (some 0))), some (.inr (.inl (some 314))), none]) rfl (st' := []) rfl 2892 rfl (c' := (c - 4)) (by omega) (sl' := (sl - 24)) (by omega) ?_
  exact h
theorem b_L_law_2931 {x5 : Int} (hD : 18 ≤ D) (hc : 27 ≤ c) (hs : 4000 ≤ sl) (h : ((-2147483648 ≤ x5 + 1 ∧ x5 + 1 < 2147483648) ∧ ((0 ≤ x5 + 1 ∧ x5 + 1 < (sc.1 : Int)) ∧ NW sc d_L_describeFerry 15 (0, [some (.inr (.inl (some 0))), some (.inl (nw_sc sc (x5 + 1))), some (.inr (.inl (some 314))), none], [], (J, L, W), 27, 4000) (fun v M9 => NW sc d_L_law D (2942, [some (.inr (.inl (some 1000000))), some (.inr (.inl (some 0))), some (.inr (.inl (some 303))), some (.inr (.inl (some 314))), some (.inr (.inl (some 315))), some (.inl x5), none, none, none], nw_push v [], M9, (c - 27), (sl - 4000)) Qr Qx) Qx))) :
    NW sc d_L_law D (2931, [some (.inr (.inl (some 1000000))), some (.inr (.inl (some 0))), some (.inr (.inl (some 303))), some (.inr (.inl (some 314))), some (.inr (.inl (some 315))), some (.inl x5), none, none, none], [], (J, L, W), c, sl) Qr Qx := by
  refine nw_aload_n l_L_law_2931 2932 rfl rfl ?_
  refine nw_aload_n l_L_law_2932 2933 rfl rfl ?_
  refine nw_iload l_L_law_2933 2935 rfl rfl ?_
  refine nw_iconst (len := 0) l_L_law_2935 2936 rfl c_1 ?_
  have o1 := h.1
  replace h := h.2
  refine nw_iadd l_L_law_2936 2937 rfl o1 ?_
  have o2 := h.1
  replace h := h.2
  refine nw_sald l_L_law_2937 2938 rfl o2 ?_
  refine nw_aload_n l_L_law_2938 2939 rfl rfl ?_
  refine nw_call 15 27 4000 0 l_L_law_2939 rfl rfl g_L_describeFerry (Nat.lt_of_lt_of_le (by decide) hD) rfl (by omega) (by omega) True.intro (ls' := [some (.inr (.inl (some 0))), some (.inl (nw_sc sc (x5 + 1))), some (.inr (.inl (some 314))), none]) rfl (st' := []) rfl 2942 rfl (c' := (c - 27)) (by omega) (sl' := (sl - 4000)) (by omega) ?_
  exact h
theorem b_L_law_2987 {x5 : Int} (hD : 18 ≤ D) (hc : 4 ≤ c) (hs : 24 ≤ sl) (h : ((-2147483648 ≤ x5 + 1 ∧ x5 + 1 < 2147483648) ∧ ((0 ≤ x5 + 1 ∧ x5 + 1 < (sc.1 : Int)) ∧ NW sc d_L_lineAt 14 (0, [some (.inr (.inl (some 0))), some (.inl (nw_sc sc (x5 + 1))), some (.inr (.inl (some 314))), none], [], (J, L, W), 4, 24) (fun v M9 => NW sc d_L_law D (2998, [some (.inr (.inl (some 1000000))), some (.inr (.inl (some 0))), some (.inr (.inl (some 303))), some (.inr (.inl (some 314))), some (.inr (.inl (some 315))), some (.inl x5), none, none, none], nw_push v [], M9, (c - 4), (sl - 24)) Qr Qx) Qx))) :
    NW sc d_L_law D (2987, [some (.inr (.inl (some 1000000))), some (.inr (.inl (some 0))), some (.inr (.inl (some 303))), some (.inr (.inl (some 314))), some (.inr (.inl (some 315))), some (.inl x5), none, none, none], [], (J, L, W), c, sl) Qr Qx := by
  refine nw_aload_n l_L_law_2987 2988 rfl rfl ?_
  refine nw_aload_n l_L_law_2988 2989 rfl rfl ?_
  refine nw_iload l_L_law_2989 2991 rfl rfl ?_
  refine nw_iconst (len := 0) l_L_law_2991 2992 rfl c_1 ?_
  have o1 := h.1
  replace h := h.2
  refine nw_iadd l_L_law_2992 2993 rfl o1 ?_
  have o2 := h.1
  replace h := h.2
  refine nw_sald l_L_law_2993 2994 rfl o2 ?_
  refine nw_aload_n l_L_law_2994 2995 rfl rfl ?_
  refine nw_call 14 4 24 0 l_L_law_2995 rfl rfl g_L_lineAt (Nat.lt_of_lt_of_le (by decide) hD) rfl (by omega) (by omega) True.intro (ls' := [some (.inr (.inl (some 0))), some (.inl (nw_sc sc (x5 + 1))), some (.inr (.inl (some 314))), none]) rfl (st' := []) rfl 2998 rfl (c' := (c - 4)) (by omega) (sl' := (sl - 24)) (by omega) ?_
  exact h
theorem b_L_law_3043 {x5 : Int} (hD : 18 ≤ D) (hc : 4 ≤ c) (hs : 24 ≤ sl) (h : NW sc d_L_meanPhase 2 (0, [some (.inr (.inl (some 0))), some (.inr (.inl (some 315))), none], [], (J, L, W), 4, 24) (fun v M9 => NW sc d_L_law D (3049, [some (.inr (.inl (some 1000000))), some (.inr (.inl (some 0))), some (.inr (.inl (some 303))), some (.inr (.inl (some 314))), some (.inr (.inl (some 315))), some (.inl x5), none, none, none], nw_push v [], M9, (c - 4), (sl - 24)) Qr Qx) Qx) :
    NW sc d_L_law D (3043, [some (.inr (.inl (some 1000000))), some (.inr (.inl (some 0))), some (.inr (.inl (some 303))), some (.inr (.inl (some 314))), some (.inr (.inl (some 315))), some (.inl x5), none, none, none], [], (J, L, W), c, sl) Qr Qx := by
  refine nw_aload_n l_L_law_3043 3044 rfl rfl ?_
  refine nw_aload l_L_law_3044 3046 rfl rfl ?_
  refine nw_call 2 4 24 0 l_L_law_3046 rfl rfl g_L_meanPhase (Nat.lt_of_lt_of_le (by decide) hD) rfl (by omega) (by omega) True.intro (ls' := [some (.inr (.inl (some 0))), some (.inr (.inl (some 315))), none]) rfl (st' := []) rfl 3049 rfl (c' := (c - 4)) (by omega) (sl' := (sl - 24)) (by omega) ?_
  exact h
theorem b_L_law_3108 {x5 : Int} (hD : 18 ≤ D) (hc : 4 ≤ c) (hs : 24 ≤ sl) (h : ((-2147483648 ≤ x5 + 1 ∧ x5 + 1 < 2147483648) ∧ ((0 ≤ x5 + 1 ∧ x5 + 1 < (sc.1 : Int)) ∧ NW sc d_L_loadShare 3 (0, [some (.inr (.inl (some 0))), some (.inl (nw_sc sc (x5 + 1))), some (.inr (.inl (some 315))), none], [], (J, L, W), 4, 24) (fun v M9 => NW sc d_L_law D (3120, [some (.inr (.inl (some 1000000))), some (.inr (.inl (some 0))), some (.inr (.inl (some 303))), some (.inr (.inl (some 314))), some (.inr (.inl (some 315))), some (.inl x5), none, none, none], nw_push v [], M9, (c - 4), (sl - 24)) Qr Qx) Qx))) :
    NW sc d_L_law D (3108, [some (.inr (.inl (some 1000000))), some (.inr (.inl (some 0))), some (.inr (.inl (some 303))), some (.inr (.inl (some 314))), some (.inr (.inl (some 315))), some (.inl x5), none, none, none], [], (J, L, W), c, sl) Qr Qx := by
  refine nw_aload_n l_L_law_3108 3109 rfl rfl ?_
  refine nw_aload_n l_L_law_3109 3110 rfl rfl ?_
  refine nw_iload l_L_law_3110 3112 rfl rfl ?_
  refine nw_iconst (len := 0) l_L_law_3112 3113 rfl c_1 ?_
  have o1 := h.1
  replace h := h.2
  refine nw_iadd l_L_law_3113 3114 rfl o1 ?_
  have o2 := h.1
  replace h := h.2
  refine nw_sald l_L_law_3114 3115 rfl o2 ?_
  refine nw_aload l_L_law_3115 3117 rfl rfl ?_
  refine nw_call 3 4 24 0 l_L_law_3117 rfl rfl g_L_loadShare (Nat.lt_of_lt_of_le (by decide) hD) rfl (by omega) (by omega) True.intro (ls' := [some (.inr (.inl (some 0))), some (.inl (nw_sc sc (x5 + 1))), some (.inr (.inl (some 315))), none]) rfl (st' := []) rfl 3120 rfl (c' := (c - 4)) (by omega) (sl' := (sl - 24)) (by omega) ?_
  exact h
theorem b_L_law_3186 {x5 : Int} (hD : 18 ≤ D) (h : NW sc d_X11_isConsistent 15 (0, [some (.inr (.inl (some 0)))], [], (J, L, W), 0, 0) (fun v M9 => NW sc d_L_law D (3190, [some (.inr (.inl (some 1000000))), some (.inr (.inl (some 0))), some (.inr (.inl (some 303))), some (.inr (.inl (some 314))), some (.inr (.inl (some 315))), some (.inl x5), none, none, none], nw_push v [], M9, c, sl) Qr Qx) Qx) :
    NW sc d_L_law D (3186, [some (.inr (.inl (some 1000000))), some (.inr (.inl (some 0))), some (.inr (.inl (some 303))), some (.inr (.inl (some 314))), some (.inr (.inl (some 315))), some (.inl x5), none, none, none], [], (J, L, W), c, sl) Qr Qx := by
  refine nw_aload_n l_L_law_3186 3187 rfl rfl ?_
  refine nw_call0 15 0 l_L_law_3187 rfl rfl g_X11_isConsistent (Nat.lt_of_lt_of_le (by decide) hD) rfl (Or.inl ⟨_, rfl, k_0⟩) (ls' := [some (.inr (.inl (some 0)))]) rfl (st' := []) rfl 3190 rfl ?_
  exact h
theorem b_L_law_3199 {x5 : Int} (hD : 18 ≤ D) (hc : 4 ≤ c) (hs : 24 ≤ sl) (h : NW sc d_L_undo 4 (0, [some (.inr (.inl (some 0))), some (.inr (.inl (some 314))), none], [], (J, L, W), 4, 24) (fun v M9 => NW sc d_L_law D (3204, [some (.inr (.inl (some 1000000))), some (.inr (.inl (some 0))), some (.inr (.inl (some 303))), some (.inr (.inl (some 314))), some (.inr (.inl (some 315))), some (.inl x5), none, none, none], nw_push v [], M9, (c - 4), (sl - 24)) Qr Qx) Qx) :
    NW sc d_L_law D (3199, [some (.inr (.inl (some 1000000))), some (.inr (.inl (some 0))), some (.inr (.inl (some 303))), some (.inr (.inl (some 314))), some (.inr (.inl (some 315))), some (.inl x5), none, none, none], [], (J, L, W), c, sl) Qr Qx := by
  refine nw_aload_n l_L_law_3199 3200 rfl rfl ?_
  refine nw_aload_n l_L_law_3200 3201 rfl rfl ?_
  refine nw_call 4 4 24 0 l_L_law_3201 rfl rfl g_L_undo (Nat.lt_of_lt_of_le (by decide) hD) rfl (by omega) (by omega) True.intro (ls' := [some (.inr (.inl (some 0))), some (.inr (.inl (some 314))), none]) rfl (st' := []) rfl 3204 rfl (c' := (c - 4)) (by omega) (sl' := (sl - 24)) (by omega) ?_
  exact h
theorem b_L_law_3243 {x5 : Int} (hD : 18 ≤ D) (h : NW sc d_X11_save 2 (0, [some (.inr (.inl (some 0)))], [], (J, L, W), 0, 0) (fun v M9 => NW sc d_L_law D (3247, [some (.inr (.inl (some 1000000))), some (.inr (.inl (some 0))), some (.inr (.inl (some 303))), some (.inr (.inl (some 314))), some (.inr (.inl (some 315))), some (.inl x5), none, none, none], nw_push v [], M9, c, sl) Qr Qx) Qx) :
    NW sc d_L_law D (3243, [some (.inr (.inl (some 1000000))), some (.inr (.inl (some 0))), some (.inr (.inl (some 303))), some (.inr (.inl (some 314))), some (.inr (.inl (some 315))), some (.inl x5), none, none, none], [], (J, L, W), c, sl) Qr Qx := by
  refine nw_aload_n l_L_law_3243 3244 rfl rfl ?_
  refine nw_call0 2 0 l_L_law_3244 rfl rfl g_X11_save (Nat.lt_of_lt_of_le (by decide) hD) rfl (Or.inl ⟨_, rfl, k_0⟩) (ls' := [some (.inr (.inl (some 0)))]) rfl (st' := []) rfl 3247 rfl ?_
  exact h
theorem b_L_law_3256 {x5 : Int} (hD : 18 ≤ D) (hc : 4 ≤ c) (hs : 24 ≤ sl) (h : NW sc d_L_restore 3 (0, [some (.inr (.inl (some 0))), some (.inr (.inl (some 314))), none], [], (J, L, W), 4, 24) (fun v M9 => NW sc d_L_law D (3261, [some (.inr (.inl (some 1000000))), some (.inr (.inl (some 0))), some (.inr (.inl (some 303))), some (.inr (.inl (some 314))), some (.inr (.inl (some 315))), some (.inl x5), none, none, none], nw_push v [], M9, (c - 4), (sl - 24)) Qr Qx) Qx) :
    NW sc d_L_law D (3256, [some (.inr (.inl (some 1000000))), some (.inr (.inl (some 0))), some (.inr (.inl (some 303))), some (.inr (.inl (some 314))), some (.inr (.inl (some 315))), some (.inl x5), none, none, none], [], (J, L, W), c, sl) Qr Qx := by
  refine nw_aload_n l_L_law_3256 3257 rfl rfl ?_
  refine nw_aload_n l_L_law_3257 3258 rfl rfl ?_
  refine nw_call 3 4 24 0 l_L_law_3258 rfl rfl g_L_restore (Nat.lt_of_lt_of_le (by decide) hD) rfl (by omega) (by omega) True.intro (ls' := [some (.inr (.inl (some 0))), some (.inr (.inl (some 314))), none]) rfl (st' := []) rfl 3261 rfl (c' := (c - 4)) (by omega) (sl' := (sl - 24)) (by omega) ?_
  exact h
theorem b_L_law_3300 {x5 : Int} (h : ((-2147483648 ≤ x5 + 5 ∧ x5 + 5 < 2147483648) ∧ NW sc d_L_law D (28, [some (.inr (.inl (some 1000000))), some (.inr (.inl (some 0))), some (.inr (.inl (some 303))), some (.inr (.inl (some 314))), some (.inr (.inl (some 315))), some (.inl (x5 + 5)), none, none, none], [], (J, L, W), c, sl) Qr Qx)) :
    NW sc d_L_law D (3300, [some (.inr (.inl (some 1000000))), some (.inr (.inl (some 0))), some (.inr (.inl (some 303))), some (.inr (.inl (some 314))), some (.inr (.inl (some 315))), some (.inl x5), none, none, none], [], (J, L, W), c, sl) Qr Qx := by
  have o1 := h.1
  replace h := h.2
  refine nw_iinc l_L_law_3300 3303 rfl 5 (by decide) rfl rfl o1 (ls' := [some (.inr (.inl (some 1000000))), some (.inr (.inl (some 0))), some (.inr (.inl (some 303))), some (.inr (.inl (some 314))), some (.inr (.inl (some 315))), some (.inl (x5 + 5)), none, none, none]) rfl ?_
  refine nw_goto l_L_law_3303 ?_
  exact h
theorem b_L_law_311 {x5 : Int} {y0 : Int} (hD : 18 ≤ D) (h : ((-2147483648 ≤ x5 + 1 ∧ x5 + 1 < 2147483648) ∧ ((0 ≤ x5 + 1 ∧ x5 + 1 < (sc.1 : Int)) ∧ NW sc d_X12_addCrater 2 (0, [some (.inr (.inl (some 303))), some (.inl (nw_sc sc (x5 + 1)))], [], (J, L, W), 0, 0) (fun v M9 => NW sc d_L_law D (323, [some (.inr (.inl (some 1000000))), some (.inr (.inl (some 0))), some (.inr (.inl (some 303))), some (.inr (.inl (some 314))), some (.inr (.inl (some 315))), some (.inl x5), some (.inl y0), none, none], nw_push v [], M9, c, sl) Qr Qx) Qx))) :
    NW sc d_L_law D (311, [some (.inr (.inl (some 1000000))), some (.inr (.inl (some 0))), some (.inr (.inl (some 303))), some (.inr (.inl (some 314))), some (.inr (.inl (some 315))), some (.inl x5), none, none, none], [.inl y0], (J, L, W), c, sl) Qr Qx := by
  refine nw_istore l_L_law_311 313 rfl rfl (ls' := [some (.inr (.inl (some 1000000))), some (.inr (.inl (some 0))), some (.inr (.inl (some 303))), some (.inr (.inl (some 314))), some (.inr (.inl (some 315))), some (.inl x5), some (.inl y0), none, none]) rfl ?_
  refine nw_aload_n l_L_law_313 314 rfl rfl ?_
  refine nw_aload_n l_L_law_314 315 rfl rfl ?_
  refine nw_iload l_L_law_315 317 rfl rfl ?_
  refine nw_iconst (len := 0) l_L_law_317 318 rfl c_1 ?_
  have o1 := h.1
  replace h := h.2
  refine nw_iadd l_L_law_318 319 rfl o1 ?_
  have o2 := h.1
  replace h := h.2
  refine nw_sald l_L_law_319 320 rfl o2 ?_
  refine nw_call0 2 303 l_L_law_320 rfl rfl g_X12_addCrater (Nat.lt_of_lt_of_le (by decide) hD) rfl (Or.inl ⟨_, rfl, k_303⟩) (ls' := [some (.inr (.inl (some 303))), some (.inl (nw_sc sc (x5 + 1)))]) rfl (st' := []) rfl 323 rfl ?_
  exact h
theorem b_L_law_385 {x5 : Int} {y0 : Int} (hD : 18 ≤ D) (h : ((-2147483648 ≤ x5 + 1 ∧ x5 + 1 < 2147483648) ∧ ((0 ≤ x5 + 1 ∧ x5 + 1 < (sc.1 : Int)) ∧ ((-2147483648 ≤ x5 + 2 ∧ x5 + 2 < 2147483648) ∧ ((0 ≤ x5 + 2 ∧ x5 + 2 < (sc.1 : Int)) ∧ ((-2147483648 ≤ x5 + 3 ∧ x5 + 3 < 2147483648) ∧ ((0 ≤ x5 + 3 ∧ x5 + 3 < (sc.1 : Int)) ∧ ((-2147483648 ≤ x5 + 4 ∧ x5 + 4 < 2147483648) ∧ ((0 ≤ x5 + 4 ∧ x5 + 4 < (sc.1 : Int)) ∧ NW sc d_X12_addChannel 4 (0, [some (.inr (.inl (some 303))), some (.inl (nw_sc sc (x5 + 1))), some (.inl (nw_sc sc (x5 + 2))), some (.inl (nw_sc sc (x5 + 3))), some (.inl (nw_sc sc (x5 + 4)))], [], (J, L, W), 0, 0) (fun v M9 => NW sc d_L_law D (415, [some (.inr (.inl (some 1000000))), some (.inr (.inl (some 0))), some (.inr (.inl (some 303))), some (.inr (.inl (some 314))), some (.inr (.inl (some 315))), some (.inl x5), some (.inl y0), none, none], nw_push v [], M9, c, sl) Qr Qx) Qx))))))))) :
    NW sc d_L_law D (385, [some (.inr (.inl (some 1000000))), some (.inr (.inl (some 0))), some (.inr (.inl (some 303))), some (.inr (.inl (some 314))), some (.inr (.inl (some 315))), some (.inl x5), none, none, none], [.inl y0], (J, L, W), c, sl) Qr Qx := by
  refine nw_istore l_L_law_385 387 rfl rfl (ls' := [some (.inr (.inl (some 1000000))), some (.inr (.inl (some 0))), some (.inr (.inl (some 303))), some (.inr (.inl (some 314))), some (.inr (.inl (some 315))), some (.inl x5), some (.inl y0), none, none]) rfl ?_
  refine nw_aload_n l_L_law_387 388 rfl rfl ?_
  refine nw_aload_n l_L_law_388 389 rfl rfl ?_
  refine nw_iload l_L_law_389 391 rfl rfl ?_
  refine nw_iconst (len := 0) l_L_law_391 392 rfl c_1 ?_
  have o1 := h.1
  replace h := h.2
  refine nw_iadd l_L_law_392 393 rfl o1 ?_
  have o2 := h.1
  replace h := h.2
  refine nw_sald l_L_law_393 394 rfl o2 ?_
  refine nw_aload_n l_L_law_394 395 rfl rfl ?_
  refine nw_iload l_L_law_395 397 rfl rfl ?_
  refine nw_iconst (len := 0) l_L_law_397 398 rfl c_2 ?_
  have o3 := h.1
  replace h := h.2
  refine nw_iadd l_L_law_398 399 rfl o3 ?_
  have o4 := h.1
  replace h := h.2
  refine nw_sald l_L_law_399 400 rfl o4 ?_
  refine nw_aload_n l_L_law_400 401 rfl rfl ?_
  refine nw_iload l_L_law_401 403 rfl rfl ?_
  refine nw_iconst (len := 0) l_L_law_403 404 rfl c_3 ?_
  have o5 := h.1
  replace h := h.2
  refine nw_iadd l_L_law_404 405 rfl o5 ?_
  have o6 := h.1
  replace h := h.2
  refine nw_sald l_L_law_405 406 rfl o6 ?_
  refine nw_aload_n l_L_law_406 407 rfl rfl ?_
  refine nw_iload l_L_law_407 409 rfl rfl ?_
  refine nw_iconst (len := 0) l_L_law_409 410 rfl c_4 ?_
  have o7 := h.1
  replace h := h.2
  refine nw_iadd l_L_law_410 411 rfl o7 ?_
  have o8 := h.1
  replace h := h.2
  refine nw_sald l_L_law_411 412 rfl o8 ?_
  refine nw_call0 4 303 l_L_law_412 rfl rfl g_X12_addChannel (Nat.lt_of_lt_of_le (by decide) hD) rfl (Or.inl ⟨_, rfl, k_303⟩) (ls' := [some (.inr (.inl (some 303))), some (.inl (nw_sc sc (x5 + 1))), some (.inl (nw_sc sc (x5 + 2))), some (.inl (nw_sc sc (x5 + 3))), some (.inl (nw_sc sc (x5 + 4)))]) rfl (st' := []) rfl 415 rfl ?_
  exact h
theorem b_L_law_459 {x5 : Int} {y0 : Int} (hD : 18 ≤ D) (h : ((-2147483648 ≤ x5 + 1 ∧ x5 + 1 < 2147483648) ∧ ((0 ≤ x5 + 1 ∧ x5 + 1 < (sc.1 : Int)) ∧ NW sc d_X12_removeChannel 2 (0, [some (.inr (.inl (some 303))), some (.inl (nw_sc sc (x5 + 1)))], [], (J, L, W), 0, 0) (fun v M9 => NW sc d_L_law D (471, [some (.inr (.inl (some 1000000))), some (.inr (.inl (some 0))), some (.inr (.inl (some 303))), some (.inr (.inl (some 314))), some (.inr (.inl (some 315))), some (.inl x5), some (.inl y0), none, none], nw_push v [], M9, c, sl) Qr Qx) Qx))) :
    NW sc d_L_law D (459, [some (.inr (.inl (some 1000000))), some (.inr (.inl (some 0))), some (.inr (.inl (some 303))), some (.inr (.inl (some 314))), some (.inr (.inl (some 315))), some (.inl x5), none, none, none], [.inl y0], (J, L, W), c, sl) Qr Qx := by
  refine nw_istore l_L_law_459 461 rfl rfl (ls' := [some (.inr (.inl (some 1000000))), some (.inr (.inl (some 0))), some (.inr (.inl (some 303))), some (.inr (.inl (some 314))), some (.inr (.inl (some 315))), some (.inl x5), some (.inl y0), none, none]) rfl ?_
  refine nw_aload_n l_L_law_461 462 rfl rfl ?_
  refine nw_aload_n l_L_law_462 463 rfl rfl ?_
  refine nw_iload l_L_law_463 465 rfl rfl ?_
  refine nw_iconst (len := 0) l_L_law_465 466 rfl c_1 ?_
  have o1 := h.1
  replace h := h.2
  refine nw_iadd l_L_law_466 467 rfl o1 ?_
  have o2 := h.1
  replace h := h.2
  refine nw_sald l_L_law_467 468 rfl o2 ?_
  refine nw_call0 2 303 l_L_law_468 rfl rfl g_X12_removeChannel (Nat.lt_of_lt_of_le (by decide) hD) rfl (Or.inl ⟨_, rfl, k_303⟩) (ls' := [some (.inr (.inl (some 303))), some (.inl (nw_sc sc (x5 + 1)))]) rfl (st' := []) rfl 471 rfl ?_
  exact h
theorem b_L_law_508 {x5 : Int} {y0 : Int} (hD : 18 ≤ D) (h : NW sc d_X12_craterCount 1 (0, [some (.inr (.inl (some 303)))], [], (J, L, W), 0, 0) (fun v M9 => NW sc d_L_law D (512, [some (.inr (.inl (some 1000000))), some (.inr (.inl (some 0))), some (.inr (.inl (some 303))), some (.inr (.inl (some 314))), some (.inr (.inl (some 315))), some (.inl x5), none, none, none], nw_push v [.inl y0], M9, c, sl) Qr Qx) Qx) :
    NW sc d_L_law D (508, [some (.inr (.inl (some 1000000))), some (.inr (.inl (some 0))), some (.inr (.inl (some 303))), some (.inr (.inl (some 314))), some (.inr (.inl (some 315))), some (.inl x5), none, none, none], [.inl y0], (J, L, W), c, sl) Qr Qx := by
  refine nw_aload_n l_L_law_508 509 rfl rfl ?_
  refine nw_call0 1 303 l_L_law_509 rfl rfl g_X12_craterCount (Nat.lt_of_lt_of_le (by decide) hD) rfl (Or.inl ⟨_, rfl, k_303⟩) (ls' := [some (.inr (.inl (some 303)))]) rfl (st' := [.inl y0]) rfl 512 rfl ?_
  exact h
theorem b_L_law_521 {x5 : Int} {y0 : Int} (hD : 18 ≤ D) (h : NW sc d_X12_channelCount 1 (0, [some (.inr (.inl (some 303)))], [], (J, L, W), 0, 0) (fun v M9 => NW sc d_L_law D (525, [some (.inr (.inl (some 1000000))), some (.inr (.inl (some 0))), some (.inr (.inl (some 303))), some (.inr (.inl (some 314))), some (.inr (.inl (some 315))), some (.inl x5), none, none, none], nw_push v [.inl y0], M9, c, sl) Qr Qx) Qx) :
    NW sc d_L_law D (521, [some (.inr (.inl (some 1000000))), some (.inr (.inl (some 0))), some (.inr (.inl (some 303))), some (.inr (.inl (some 314))), some (.inr (.inl (some 315))), some (.inl x5), none, none, none], [.inl y0], (J, L, W), c, sl) Qr Qx := by
  refine nw_aload_n l_L_law_521 522 rfl rfl ?_
  refine nw_call0 1 303 l_L_law_522 rfl rfl g_X12_channelCount (Nat.lt_of_lt_of_le (by decide) hD) rfl (Or.inl ⟨_, rfl, k_303⟩) (ls' := [some (.inr (.inl (some 303)))]) rfl (st' := [.inl y0]) rfl 525 rfl ?_
  exact h
theorem b_L_law_541 {x5 : Int} {y0 : Int} (hD : 18 ≤ D) (h : ((-2147483648 ≤ x5 + 1 ∧ x5 + 1 < 2147483648) ∧ ((0 ≤ x5 + 1 ∧ x5 + 1 < (sc.1 : Int)) ∧ NW sc d_X12_depthOf 2 (0, [some (.inr (.inl (some 303))), some (.inl (nw_sc sc (x5 + 1)))], [], (J, L, W), 0, 0) (fun v M9 => NW sc d_L_law D (553, [some (.inr (.inl (some 1000000))), some (.inr (.inl (some 0))), some (.inr (.inl (some 303))), some (.inr (.inl (some 314))), some (.inr (.inl (some 315))), some (.inl x5), some (.inl y0), none, none], nw_push v [], M9, c, sl) Qr Qx) Qx))) :
    NW sc d_L_law D (541, [some (.inr (.inl (some 1000000))), some (.inr (.inl (some 0))), some (.inr (.inl (some 303))), some (.inr (.inl (some 314))), some (.inr (.inl (some 315))), some (.inl x5), none, none, none], [.inl y0], (J, L, W), c, sl) Qr Qx := by
  refine nw_istore l_L_law_541 543 rfl rfl (ls' := [some (.inr (.inl (some 1000000))), some (.inr (.inl (some 0))), some (.inr (.inl (some 303))), some (.inr (.inl (some 314))), some (.inr (.inl (some 315))), some (.inl x5), some (.inl y0), none, none]) rfl ?_
  refine nw_aload_n l_L_law_543 544 rfl rfl ?_
  refine nw_aload_n l_L_law_544 545 rfl rfl ?_
  refine nw_iload l_L_law_545 547 rfl rfl ?_
  refine nw_iconst (len := 0) l_L_law_547 548 rfl c_1 ?_
  have o1 := h.1
  replace h := h.2
  refine nw_iadd l_L_law_548 549 rfl o1 ?_
  have o2 := h.1
  replace h := h.2
  refine nw_sald l_L_law_549 550 rfl o2 ?_
  refine nw_call0 2 303 l_L_law_550 rfl rfl g_X12_depthOf (Nat.lt_of_lt_of_le (by decide) hD) rfl (Or.inl ⟨_, rfl, k_303⟩) (ls' := [some (.inr (.inl (some 303))), some (.inl (nw_sc sc (x5 + 1)))]) rfl (st' := []) rfl 553 rfl ?_
  exact h
theorem b_L_law_603 {x5 : Int} {y0 : Int} (hD : 18 ≤ D) (h : ((-2147483648 ≤ x5 + 1 ∧ x5 + 1 < 2147483648) ∧ ((0 ≤ x5 + 1 ∧ x5 + 1 < (sc.1 : Int)) ∧ ((-2147483648 ≤ x5 + 2 ∧ x5 + 2 < 2147483648) ∧ ((0 ≤ x5 + 2 ∧ x5 + 2 < (sc.1 : Int)) ∧ NW sc d_X12_channelBetween 3 (0, [some (.inr (.inl (some 303))), some (.inl (nw_sc sc (x5 + 1))), some (.inl (nw_sc sc (x5 + 2))), none], [], (J, L, W), 0, 0) (fun v M9 => NW sc d_L_law D (621, [some (.inr (.inl (some 1000000))), some (.inr (.inl (some 0))), some (.inr (.inl (some 303))), some (.inr (.inl (some 314))), some (.inr (.inl (some 315))), some (.inl x5), some (.inl y0), none, none], nw_push v [], M9, c, sl) Qr Qx) Qx))))) :
    NW sc d_L_law D (603, [some (.inr (.inl (some 1000000))), some (.inr (.inl (some 0))), some (.inr (.inl (some 303))), some (.inr (.inl (some 314))), some (.inr (.inl (some 315))), some (.inl x5), none, none, none], [.inl y0], (J, L, W), c, sl) Qr Qx := by
  refine nw_istore l_L_law_603 605 rfl rfl (ls' := [some (.inr (.inl (some 1000000))), some (.inr (.inl (some 0))), some (.inr (.inl (some 303))), some (.inr (.inl (some 314))), some (.inr (.inl (some 315))), some (.inl x5), some (.inl y0), none, none]) rfl ?_
  refine nw_aload_n l_L_law_605 606 rfl rfl ?_
  refine nw_aload_n l_L_law_606 607 rfl rfl ?_
  refine nw_iload l_L_law_607 609 rfl rfl ?_
  refine nw_iconst (len := 0) l_L_law_609 610 rfl c_1 ?_
  have o1 := h.1
  replace h := h.2
  refine nw_iadd l_L_law_610 611 rfl o1 ?_
  have o2 := h.1
  replace h := h.2
  refine nw_sald l_L_law_611 612 rfl o2 ?_
  refine nw_aload_n l_L_law_612 613 rfl rfl ?_
  refine nw_iload l_L_law_613 615 rfl rfl ?_
  refine nw_iconst (len := 0) l_L_law_615 616 rfl c_2 ?_
  have o3 := h.1
  replace h := h.2
  refine nw_iadd l_L_law_616 617 rfl o3 ?_
  have o4 := h.1
  replace h := h.2
  refine nw_sald l_L_law_617 618 rfl o4 ?_
  refine nw_call0 3 303 l_L_law_618 rfl rfl g_X12_channelBetween (Nat.lt_of_lt_of_le (by decide) hD) rfl (Or.inl ⟨_, rfl, k_303⟩) (ls' := [some (.inr (.inl (some 303))), some (.inl (nw_sc sc (x5 + 1))), some (.inl (nw_sc sc (x5 + 2))), none]) rfl (st' := []) rfl 621 rfl ?_
  exact h
theorem b_L_law_665 {x5 : Int} {y0 : Int} (hD : 18 ≤ D) (h : ((-2147483648 ≤ x5 + 1 ∧ x5 + 1 < 2147483648) ∧ ((0 ≤ x5 + 1 ∧ x5 + 1 < (sc.1 : Int)) ∧ NW sc d_X12_tide 1 (0, [some (.inr (.inl (some 303))), some (.inl (nw_sc sc (x5 + 1)))], [], (J, L, W), 0, 0) (fun v M9 => NW sc d_L_law D (677, [some (.inr (.inl (some 1000000))), some (.inr (.inl (some 0))), some (.inr (.inl (some 303))), some (.inr (.inl (some 314))), some (.inr (.inl (some 315))), some (.inl x5), some (.inl y0), none, none], nw_push v [], M9, c, sl) Qr Qx) Qx))) :
    NW sc d_L_law D (665, [some (.inr (.inl (some 1000000))), some (.inr (.inl (some 0))), some (.inr (.inl (some 303))), some (.inr (.inl (some 314))), some (.inr (.inl (some 315))), some (.inl x5), none, none, none], [.inl y0], (J, L, W), c, sl) Qr Qx := by
  refine nw_istore l_L_law_665 667 rfl rfl (ls' := [some (.inr (.inl (some 1000000))), some (.inr (.inl (some 0))), some (.inr (.inl (some 303))), some (.inr (.inl (some 314))), some (.inr (.inl (some 315))), some (.inl x5), some (.inl y0), none, none]) rfl ?_
  refine nw_aload_n l_L_law_667 668 rfl rfl ?_
  refine nw_aload_n l_L_law_668 669 rfl rfl ?_
  refine nw_iload l_L_law_669 671 rfl rfl ?_
  refine nw_iconst (len := 0) l_L_law_671 672 rfl c_1 ?_
  have o1 := h.1
  replace h := h.2
  refine nw_iadd l_L_law_672 673 rfl o1 ?_
  have o2 := h.1
  replace h := h.2
  refine nw_sald l_L_law_673 674 rfl o2 ?_
  refine nw_call0 1 303 l_L_law_674 rfl rfl g_X12_tide (Nat.lt_of_lt_of_le (by decide) hD) rfl (Or.inl ⟨_, rfl, k_303⟩) (ls' := [some (.inr (.inl (some 303))), some (.inl (nw_sc sc (x5 + 1)))]) rfl (st' := []) rfl 677 rfl ?_
  exact h
theorem b_L_law_727 {x5 : Int} {y0 : Int} (hD : 18 ≤ D) (h : ((-2147483648 ≤ x5 + 1 ∧ x5 + 1 < 2147483648) ∧ ((0 ≤ x5 + 1 ∧ x5 + 1 < (sc.1 : Int)) ∧ ((-2147483648 ≤ x5 + 2 ∧ x5 + 2 < 2147483648) ∧ ((0 ≤ x5 + 2 ∧ x5 + 2 < (sc.1 : Int)) ∧ NW sc d_X12_wayHours 3 (0, [some (.inr (.inl (some 303))), some (.inl (nw_sc sc (x5 + 1))), some (.inl (nw_sc sc (x5 + 2))), none], [], (J, L, W), 0, 0) (fun v M9 => NW sc d_L_law D (745, [some (.inr (.inl (some 1000000))), some (.inr (.inl (some 0))), some (.inr (.inl (some 303))), some (.inr (.inl (some 314))), some (.inr (.inl (some 315))), some (.inl x5), some (.inl y0), none, none], nw_push v [], M9, c, sl) Qr Qx) Qx))))) :
    NW sc d_L_law D (727, [some (.inr (.inl (some 1000000))), some (.inr (.inl (some 0))), some (.inr (.inl (some 303))), some (.inr (.inl (some 314))), some (.inr (.inl (some 315))), some (.inl x5), none, none, none], [.inl y0], (J, L, W), c, sl) Qr Qx := by
  refine nw_istore l_L_law_727 729 rfl rfl (ls' := [some (.inr (.inl (some 1000000))), some (.inr (.inl (some 0))), some (.inr (.inl (some 303))), some (.inr (.inl (some 314))), some (.inr (.inl (some 315))), some (.inl x5), some (.inl y0), none, none]) rfl ?_
  refine nw_aload_n l_L_law_729 730 rfl rfl ?_
  refine nw_aload_n l_L_law_730 731 rfl rfl ?_
  refine nw_iload l_L_law_731 733 rfl rfl ?_
  refine nw_iconst (len := 0) l_L_law_733 734 rfl c_1 ?_
  have o1 := h.1
  replace h := h.2
  refine nw_iadd l_L_law_734 735 rfl o1 ?_
  have o2 := h.1
  replace h := h.2
  refine nw_sald l_L_law_735 736 rfl o2 ?_
  refine nw_aload_n l_L_law_736 737 rfl rfl ?_
  refine nw_iload l_L_law_737 739 rfl rfl ?_
  refine nw_iconst (len := 0) l_L_law_739 740 rfl c_2 ?_
  have o3 := h.1
  replace h := h.2
  refine nw_iadd l_L_law_740 741 rfl o3 ?_
  have o4 := h.1
  replace h := h.2
  refine nw_sald l_L_law_741 742 rfl o4 ?_
  refine nw_call0 3 303 l_L_law_742 rfl rfl g_X12_wayHours (Nat.lt_of_lt_of_le (by decide) hD) rfl (Or.inl ⟨_, rfl, k_303⟩) (ls' := [some (.inr (.inl (some 303))), some (.inl (nw_sc sc (x5 + 1))), some (.inl (nw_sc sc (x5 + 2))), none]) rfl (st' := []) rfl 745 rfl ?_
  exact h
theorem b_L_law_795 {x5 : Int} {y0 : Int} (hD : 18 ≤ D) (h : ((-2147483648 ≤ x5 + 1 ∧ x5 + 1 < 2147483648) ∧ ((0 ≤ x5 + 1 ∧ x5 + 1 < (sc.1 : Int)) ∧ ((-2147483648 ≤ x5 + 2 ∧ x5 + 2 < 2147483648) ∧ ((0 ≤ x5 + 2 ∧ x5 + 2 < (sc.1 : Int)) ∧ NW sc d_X12_wayHoursByTable 4 (0, [some (.inr (.inl (some 303))), some (.inl (nw_sc sc (x5 + 1))), some (.inl (nw_sc sc (x5 + 2)))], [], (J, L, W), 0, 0) (fun v M9 => NW sc d_L_law D (813, [some (.inr (.inl (some 1000000))), some (.inr (.inl (some 0))), some (.inr (.inl (some 303))), some (.inr (.inl (some 314))), some (.inr (.inl (some 315))), some (.inl x5), some (.inl y0), none, none], nw_push v [], M9, c, sl) Qr Qx) Qx))))) :
    NW sc d_L_law D (795, [some (.inr (.inl (some 1000000))), some (.inr (.inl (some 0))), some (.inr (.inl (some 303))), some (.inr (.inl (some 314))), some (.inr (.inl (some 315))), some (.inl x5), none, none, none], [.inl y0], (J, L, W), c, sl) Qr Qx := by
  refine nw_istore l_L_law_795 797 rfl rfl (ls' := [some (.inr (.inl (some 1000000))), some (.inr (.inl (some 0))), some (.inr (.inl (some 303))), some (.inr (.inl (some 314))), some (.inr (.inl (some 315))), some (.inl x5), some (.inl y0), none, none]) rfl ?_
  refine nw_aload_n l_L_law_797 798 rfl rfl ?_
  refine nw_aload_n l_L_law_798 799 rfl rfl ?_
  refine nw_iload l_L_law_799 801 rfl rfl ?_
  refine nw_iconst (len := 0) l_L_law_801 802 rfl c_1 ?_
  have o1 := h.1
  replace h := h.2
  refine nw_iadd l_L_law_802 803 rfl o1 ?_
  have o2 := h.1
  replace h := h.2
  refine nw_sald l_L_law_803 804 rfl o2 ?_
  refine nw_aload_n l_L_law_804 805 rfl rfl ?_
  refine nw_iload l_L_law_805 807 rfl rfl ?_
  refine nw_iconst (len := 0) l_L_law_807 808 rfl c_2 ?_
  have o3 := h.1
  replace h := h.2
  refine nw_iadd l_L_law_808 809 rfl o3 ?_
  have o4 := h.1
  replace h := h.2
  refine nw_sald l_L_law_809 810 rfl o4 ?_
  refine nw_call0 4 303 l_L_law_810 rfl rfl g_X12_wayHoursByTable (Nat.lt_of_lt_of_le (by decide) hD) rfl (Or.inl ⟨_, rfl, k_303⟩) (ls' := [some (.inr (.inl (some 303))), some (.inl (nw_sc sc (x5 + 1))), some (.inl (nw_sc sc (x5 + 2)))]) rfl (st' := []) rfl 813 rfl ?_
  exact h
theorem b_L_law_851 {x5 : Int} {y0 : Int} (hD : 18 ≤ D) (h : NW sc d_X12_cheapestNet 1 (0, [some (.inr (.inl (some 303))), none, none, none, none, none], [], (J, L, W), 0, 0) (fun v M9 => NW sc d_L_law D (857, [some (.inr (.inl (some 1000000))), some (.inr (.inl (some 0))), some (.inr (.inl (some 303))), some (.inr (.inl (some 314))), some (.inr (.inl (some 315))), some (.inl x5), some (.inl y0), none, none], nw_push v [], M9, c, sl) Qr Qx) Qx) :
    NW sc d_L_law D (851, [some (.inr (.inl (some 1000000))), some (.inr (.inl (some 0))), some (.inr (.inl (some 303))), some (.inr (.inl (some 314))), some (.inr (.inl (some 315))), some (.inl x5), none, none, none], [.inl y0], (J, L, W), c, sl) Qr Qx := by
  refine nw_istore l_L_law_851 853 rfl rfl (ls' := [some (.inr (.inl (some 1000000))), some (.inr (.inl (some 0))), some (.inr (.inl (some 303))), some (.inr (.inl (some 314))), some (.inr (.inl (some 315))), some (.inl x5), some (.inl y0), none, none]) rfl ?_
  refine nw_aload_n l_L_law_853 854 rfl rfl ?_
  refine nw_call0 1 303 l_L_law_854 rfl rfl g_X12_cheapestNet (Nat.lt_of_lt_of_le (by decide) hD) rfl (Or.inl ⟨_, rfl, k_303⟩) (ls' := [some (.inr (.inl (some 303))), none, none, none, none, none]) rfl (st' := []) rfl 857 rfl ?_
  exact h
theorem b_L_law_895 {x5 : Int} {y0 : Int} (hD : 18 ≤ D) (h : NW sc d_X12_cheapestNetByGrowing 2 (0, [some (.inr (.inl (some 303)))], [], (J, L, W), 0, 0) (fun v M9 => NW sc d_L_law D (901, [some (.inr (.inl (some 1000000))), some (.inr (.inl (some 0))), some (.inr (.inl (some 303))), some (.inr (.inl (some 314))), some (.inr (.inl (some 315))), some (.inl x5), some (.inl y0), none, none], nw_push v [], M9, c, sl) Qr Qx) Qx) :
    NW sc d_L_law D (895, [some (.inr (.inl (some 1000000))), some (.inr (.inl (some 0))), some (.inr (.inl (some 303))), some (.inr (.inl (some 314))), some (.inr (.inl (some 315))), some (.inl x5), none, none, none], [.inl y0], (J, L, W), c, sl) Qr Qx := by
  refine nw_istore l_L_law_895 897 rfl rfl (ls' := [some (.inr (.inl (some 1000000))), some (.inr (.inl (some 0))), some (.inr (.inl (some 303))), some (.inr (.inl (some 314))), some (.inr (.inl (some 315))), some (.inl x5), some (.inl y0), none, none]) rfl ?_
  refine nw_aload_n l_L_law_897 898 rfl rfl ?_
  refine nw_call0 2 303 l_L_law_898 rfl rfl g_X12_cheapestNetByGrowing (Nat.lt_of_lt_of_le (by decide) hD) rfl (Or.inl ⟨_, rfl, k_303⟩) (ls' := [some (.inr (.inl (some 303)))]) rfl (st' := []) rfl 901 rfl ?_
  exact h
theorem b_L_law_957 {x5 : Int} {y0 : Int} (hD : 18 ≤ D) (h : ((-2147483648 ≤ x5 + 1 ∧ x5 + 1 < 2147483648) ∧ ((0 ≤ x5 + 1 ∧ x5 + 1 < (sc.1 : Int)) ∧ ((-2147483648 ≤ x5 + 2 ∧ x5 + 2 < 2147483648) ∧ ((0 ≤ x5 + 2 ∧ x5 + 2 < (sc.1 : Int)) ∧ ((-2147483648 ≤ x5 + 3 ∧ x5 + 3 < 2147483648) ∧ ((0 ≤ x5 + 3 ∧ x5 + 3 < (sc.1 : Int)) ∧ NW sc d_X12_addFerry 3 (0, [some (.inr (.inl (some 303))), some (.inl (nw_sc sc (x5 + 1))), some (.inl (nw_sc sc (x5 + 2))), some (.inl (nw_sc sc (x5 + 3)))], [], (J, L, W), 0, 0) (fun v M9 => NW sc d_L_law D (981, [some (.inr (.inl (some 1000000))), some (.inr (.inl (some 0))), some (.inr (.inl (some 303))), some (.inr (.inl (some 314))), some (.inr (.inl (some 315))), some (.inl x5), some (.inl y0), none, none], nw_push v [], M9, c, sl) Qr Qx) Qx))))))) :
    NW sc d_L_law D (957, [some (.inr (.inl (some 1000000))), some (.inr (.inl (some 0))), some (.inr (.inl (some 303))), some (.inr (.inl (some 314))), some (.inr (.inl (some 315))), some (.inl x5), none, none, none], [.inl y0], (J, L, W), c, sl) Qr Qx := by
  refine nw_istore l_L_law_957 959 rfl rfl (ls' := [some (.inr (.inl (some 1000000))), some (.inr (.inl (some 0))), some (.inr (.inl (some 303))), some (.inr (.inl (some 314))), some (.inr (.inl (some 315))), some (.inl x5), some (.inl y0), none, none]) rfl ?_
  refine nw_aload_n l_L_law_959 960 rfl rfl ?_
  refine nw_aload_n l_L_law_960 961 rfl rfl ?_
  refine nw_iload l_L_law_961 963 rfl rfl ?_
  refine nw_iconst (len := 0) l_L_law_963 964 rfl c_1 ?_
  have o1 := h.1
  replace h := h.2
  refine nw_iadd l_L_law_964 965 rfl o1 ?_
  have o2 := h.1
  replace h := h.2
  refine nw_sald l_L_law_965 966 rfl o2 ?_
  refine nw_aload_n l_L_law_966 967 rfl rfl ?_
  refine nw_iload l_L_law_967 969 rfl rfl ?_
  refine nw_iconst (len := 0) l_L_law_969 970 rfl c_2 ?_
  have o3 := h.1
  replace h := h.2
  refine nw_iadd l_L_law_970 971 rfl o3 ?_
  have o4 := h.1
  replace h := h.2
  refine nw_sald l_L_law_971 972 rfl o4 ?_
  refine nw_aload_n l_L_law_972 973 rfl rfl ?_
  refine nw_iload l_L_law_973 975 rfl rfl ?_
  refine nw_iconst (len := 0) l_L_law_975 976 rfl c_3 ?_
  have o5 := h.1
  replace h := h.2
  refine nw_iadd l_L_law_976 977 rfl o5 ?_
  have o6 := h.1
  replace h := h.2
  refine nw_sald l_L_law_977 978 rfl o6 ?_
  refine nw_call0 3 303 l_L_law_978 rfl rfl g_X12_addFerry (Nat.lt_of_lt_of_le (by decide) hD) rfl (Or.inl ⟨_, rfl, k_303⟩) (ls' := [some (.inr (.inl (some 303))), some (.inl (nw_sc sc (x5 + 1))), some (.inl (nw_sc sc (x5 + 2))), some (.inl (nw_sc sc (x5 + 3)))]) rfl (st' := []) rfl 981 rfl ?_
  exact h
theorem b_L_law_1031 {x5 : Int} {y0 : Int} (hD : 18 ≤ D) (h : ((-2147483648 ≤ x5 + 1 ∧ x5 + 1 < 2147483648) ∧ ((0 ≤ x5 + 1 ∧ x5 + 1 < (sc.1 : Int)) ∧ ((-2147483648 ≤ x5 + 2 ∧ x5 + 2 < 2147483648) ∧ ((0 ≤ x5 + 2 ∧ x5 + 2 < (sc.1 : Int)) ∧ NW sc d_X12_sail 4 (0, [some (.inr (.inl (some 303))), some (.inl (nw_sc sc (x5 + 1))), some (.inl (nw_sc sc (x5 + 2)))], [], (J, L, W), 0, 0) (fun v M9 => NW sc d_L_law D (1049, [some (.inr (.inl (some 1000000))), some (.inr (.inl (some 0))), some (.inr (.inl (some 303))), some (.inr (.inl (some 314))), some (.inr (.inl (some 315))), some (.inl x5), some (.inl y0), none, none], nw_push v [], M9, c, sl) Qr Qx) Qx))))) :
    NW sc d_L_law D (1031, [some (.inr (.inl (some 1000000))), some (.inr (.inl (some 0))), some (.inr (.inl (some 303))), some (.inr (.inl (some 314))), some (.inr (.inl (some 315))), some (.inl x5), none, none, none], [.inl y0], (J, L, W), c, sl) Qr Qx := by
  refine nw_istore l_L_law_1031 1033 rfl rfl (ls' := [some (.inr (.inl (some 1000000))), some (.inr (.inl (some 0))), some (.inr (.inl (some 303))), some (.inr (.inl (some 314))), some (.inr (.inl (some 315))), some (.inl x5), some (.inl y0), none, none]) rfl ?_
  refine nw_aload_n l_L_law_1033 1034 rfl rfl ?_
  refine nw_aload_n l_L_law_1034 1035 rfl rfl ?_
  refine nw_iload l_L_law_1035 1037 rfl rfl ?_
  refine nw_iconst (len := 0) l_L_law_1037 1038 rfl c_1 ?_
  have o1 := h.1
  replace h := h.2
  refine nw_iadd l_L_law_1038 1039 rfl o1 ?_
  have o2 := h.1
  replace h := h.2
  refine nw_sald l_L_law_1039 1040 rfl o2 ?_
  refine nw_aload_n l_L_law_1040 1041 rfl rfl ?_
  refine nw_iload l_L_law_1041 1043 rfl rfl ?_
  refine nw_iconst (len := 0) l_L_law_1043 1044 rfl c_2 ?_
  have o3 := h.1
  replace h := h.2
  refine nw_iadd l_L_law_1044 1045 rfl o3 ?_
  have o4 := h.1
  replace h := h.2
  refine nw_sald l_L_law_1045 1046 rfl o4 ?_
  refine nw_call0 4 303 l_L_law_1046 rfl rfl g_X12_sail (Nat.lt_of_lt_of_le (by decide) hD) rfl (Or.inl ⟨_, rfl, k_303⟩) (ls' := [some (.inr (.inl (some 303))), some (.inl (nw_sc sc (x5 + 1))), some (.inl (nw_sc sc (x5 + 2)))]) rfl (st' := []) rfl 1049 rfl ?_
  exact h
theorem b_L_law_1093 {x5 : Int} {y0 : Int} (hD : 18 ≤ D) (h : ((-2147483648 ≤ x5 + 1 ∧ x5 + 1 < 2147483648) ∧ ((0 ≤ x5 + 1 ∧ x5 + 1 < (sc.1 : Int)) ∧ NW sc d_X12_isAtSea 2 (0, [some (.inr (.inl (some 303))), some (.inl (nw_sc sc (x5 + 1)))], [], (J, L, W), 0, 0) (fun v M9 => NW sc d_L_law D (1105, [some (.inr (.inl (some 1000000))), some (.inr (.inl (some 0))), some (.inr (.inl (some 303))), some (.inr (.inl (some 314))), some (.inr (.inl (some 315))), some (.inl x5), some (.inl y0), none, none], nw_push v [], M9, c, sl) Qr Qx) Qx))) :
    NW sc d_L_law D (1093, [some (.inr (.inl (some 1000000))), some (.inr (.inl (some 0))), some (.inr (.inl (some 303))), some (.inr (.inl (some 314))), some (.inr (.inl (some 315))), some (.inl x5), none, none, none], [.inl y0], (J, L, W), c, sl) Qr Qx := by
  refine nw_istore l_L_law_1093 1095 rfl rfl (ls' := [some (.inr (.inl (some 1000000))), some (.inr (.inl (some 0))), some (.inr (.inl (some 303))), some (.inr (.inl (some 314))), some (.inr (.inl (some 315))), some (.inl x5), some (.inl y0), none, none]) rfl ?_
  refine nw_aload_n l_L_law_1095 1096 rfl rfl ?_
  refine nw_aload_n l_L_law_1096 1097 rfl rfl ?_
  refine nw_iload l_L_law_1097 1099 rfl rfl ?_
  refine nw_iconst (len := 0) l_L_law_1099 1100 rfl c_1 ?_
  have o1 := h.1
  replace h := h.2
  refine nw_iadd l_L_law_1100 1101 rfl o1 ?_
  have o2 := h.1
  replace h := h.2
  refine nw_sald l_L_law_1101 1102 rfl o2 ?_
  refine nw_call0 2 303 l_L_law_1102 rfl rfl g_X12_isAtSea (Nat.lt_of_lt_of_le (by decide) hD) rfl (Or.inl ⟨_, rfl, k_303⟩) (ls' := [some (.inr (.inl (some 303))), some (.inl (nw_sc sc (x5 + 1)))]) rfl (st' := []) rfl 1105 rfl ?_
  exact h
theorem b_L_law_1156 {x5 : Int} {y0 : Int} (hD : 18 ≤ D) (h : ((-2147483648 ≤ x5 + 1 ∧ x5 + 1 < 2147483648) ∧ ((0 ≤ x5 + 1 ∧ x5 + 1 < (sc.1 : Int)) ∧ NW sc d_X12_craterOf 2 (0, [some (.inr (.inl (some 303))), some (.inl (nw_sc sc (x5 + 1)))], [], (J, L, W), 0, 0) (fun v M9 => NW sc d_L_law D (1168, [some (.inr (.inl (some 1000000))), some (.inr (.inl (some 0))), some (.inr (.inl (some 303))), some (.inr (.inl (some 314))), some (.inr (.inl (some 315))), some (.inl x5), some (.inl y0), none, none], nw_push v [], M9, c, sl) Qr Qx) Qx))) :
    NW sc d_L_law D (1156, [some (.inr (.inl (some 1000000))), some (.inr (.inl (some 0))), some (.inr (.inl (some 303))), some (.inr (.inl (some 314))), some (.inr (.inl (some 315))), some (.inl x5), none, none, none], [.inl y0], (J, L, W), c, sl) Qr Qx := by
  refine nw_istore l_L_law_1156 1158 rfl rfl (ls' := [some (.inr (.inl (some 1000000))), some (.inr (.inl (some 0))), some (.inr (.inl (some 303))), some (.inr (.inl (some 314))), some (.inr (.inl (some 315))), some (.inl x5), some (.inl y0), none, none]) rfl ?_
  refine nw_aload_n l_L_law_1158 1159 rfl rfl ?_
  refine nw_aload_n l_L_law_1159 1160 rfl rfl ?_
  refine nw_iload l_L_law_1160 1162 rfl rfl ?_
  refine nw_iconst (len := 0) l_L_law_1162 1163 rfl c_1 ?_
  have o1 := h.1
  replace h := h.2
  refine nw_iadd l_L_law_1163 1164 rfl o1 ?_
  have o2 := h.1
  replace h := h.2
  refine nw_sald l_L_law_1164 1165 rfl o2 ?_
  refine nw_call0 2 303 l_L_law_1165 rfl rfl g_X12_craterOf (Nat.lt_of_lt_of_le (by decide) hD) rfl (Or.inl ⟨_, rfl, k_303⟩) (ls' := [some (.inr (.inl (some 303))), some (.inl (nw_sc sc (x5 + 1)))]) rfl (st' := []) rfl 1168 rfl ?_
  exact h
theorem b_L_law_1212 {x5 : Int} {y0 : Int} (hD : 18 ≤ D) (h : ((-2147483648 ≤ x5 + 1 ∧ x5 + 1 < 2147483648) ∧ ((0 ≤ x5 + 1 ∧ x5 + 1 < (sc.1 : Int)) ∧ NW sc d_X12_targetOf 2 (0, [some (.inr (.inl (some 303))), some (.inl (nw_sc sc (x5 + 1)))], [], (J, L, W), 0, 0) (fun v M9 => NW sc d_L_law D (1224, [some (.inr (.inl (some 1000000))), some (.inr (.inl (some 0))), some (.inr (.inl (some 303))), some (.inr (.inl (some 314))), some (.inr (.inl (some 315))), some (.inl x5), some (.inl y0), none, none], nw_push v [], M9, c, sl) Qr Qx) Qx))) :
    NW sc d_L_law D (1212, [some (.inr (.inl (some 1000000))), some (.inr (.inl (some 0))), some (.inr (.inl (some 303))), some (.inr (.inl (some 314))), some (.inr (.inl (some 315))), some (.inl x5), none, none, none], [.inl y0], (J, L, W), c, sl) Qr Qx := by
  refine nw_istore l_L_law_1212 1214 rfl rfl (ls' := [some (.inr (.inl (some 1000000))), some (.inr (.inl (some 0))), some (.inr (.inl (some 303))), some (.inr (.inl (some 314))), some (.inr (.inl (some 315))), some (.inl x5), some (.inl y0), none, none]) rfl ?_
  refine nw_aload_n l_L_law_1214 1215 rfl rfl ?_
  refine nw_aload_n l_L_law_1215 1216 rfl rfl ?_
  refine nw_iload l_L_law_1216 1218 rfl rfl ?_
  refine nw_iconst (len := 0) l_L_law_1218 1219 rfl c_1 ?_
  have o1 := h.1
  replace h := h.2
  refine nw_iadd l_L_law_1219 1220 rfl o1 ?_
  have o2 := h.1
  replace h := h.2
  refine nw_sald l_L_law_1220 1221 rfl o2 ?_
  refine nw_call0 2 303 l_L_law_1221 rfl rfl g_X12_targetOf (Nat.lt_of_lt_of_le (by decide) hD) rfl (Or.inl ⟨_, rfl, k_303⟩) (ls' := [some (.inr (.inl (some 303))), some (.inl (nw_sc sc (x5 + 1)))]) rfl (st' := []) rfl 1224 rfl ?_
  exact h
theorem b_L_law_1268 {x5 : Int} {y0 : Int} (hD : 18 ≤ D) (h : ((-2147483648 ≤ x5 + 1 ∧ x5 + 1 < 2147483648) ∧ ((0 ≤ x5 + 1 ∧ x5 + 1 < (sc.1 : Int)) ∧ NW sc d_X12_hoursLeft 2 (0, [some (.inr (.inl (some 303))), some (.inl (nw_sc sc (x5 + 1)))], [], (J, L, W), 0, 0) (fun v M9 => NW sc d_L_law D (1280, [some (.inr (.inl (some 1000000))), some (.inr (.inl (some 0))), some (.inr (.inl (some 303))), some (.inr (.inl (some 314))), some (.inr (.inl (some 315))), some (.inl x5), some (.inl y0), none, none], nw_push v [], M9, c, sl) Qr Qx) Qx))) :
    NW sc d_L_law D (1268, [some (.inr (.inl (some 1000000))), some (.inr (.inl (some 0))), some (.inr (.inl (some 303))), some (.inr (.inl (some 314))), some (.inr (.inl (some 315))), some (.inl x5), none, none, none], [.inl y0], (J, L, W), c, sl) Qr Qx := by
  refine nw_istore l_L_law_1268 1270 rfl rfl (ls' := [some (.inr (.inl (some 1000000))), some (.inr (.inl (some 0))), some (.inr (.inl (some 303))), some (.inr (.inl (some 314))), some (.inr (.inl (some 315))), some (.inl x5), some (.inl y0), none, none]) rfl ?_
  refine nw_aload_n l_L_law_1270 1271 rfl rfl ?_
  refine nw_aload_n l_L_law_1271 1272 rfl rfl ?_
  refine nw_iload l_L_law_1272 1274 rfl rfl ?_
  refine nw_iconst (len := 0) l_L_law_1274 1275 rfl c_1 ?_
  have o1 := h.1
  replace h := h.2
  refine nw_iadd l_L_law_1275 1276 rfl o1 ?_
  have o2 := h.1
  replace h := h.2
  refine nw_sald l_L_law_1276 1277 rfl o2 ?_
  refine nw_call0 2 303 l_L_law_1277 rfl rfl g_X12_hoursLeft (Nat.lt_of_lt_of_le (by decide) hD) rfl (Or.inl ⟨_, rfl, k_303⟩) (ls' := [some (.inr (.inl (some 303))), some (.inl (nw_sc sc (x5 + 1)))]) rfl (st' := []) rfl 1280 rfl ?_
  exact h
theorem b_L_law_1324 {x5 : Int} {y0 : Int} (hD : 18 ≤ D) (h : ((-2147483648 ≤ x5 + 1 ∧ x5 + 1 < 2147483648) ∧ ((0 ≤ x5 + 1 ∧ x5 + 1 < (sc.1 : Int)) ∧ NW sc d_X12_isStranded 3 (0, [some (.inr (.inl (some 303))), some (.inl (nw_sc sc (x5 + 1)))], [], (J, L, W), 0, 0) (fun v M9 => NW sc d_L_law D (1336, [some (.inr (.inl (some 1000000))), some (.inr (.inl (some 0))), some (.inr (.inl (some 303))), some (.inr (.inl (some 314))), some (.inr (.inl (some 315))), some (.inl x5), some (.inl y0), none, none], nw_push v [], M9, c, sl) Qr Qx) Qx))) :
    NW sc d_L_law D (1324, [some (.inr (.inl (some 1000000))), some (.inr (.inl (some 0))), some (.inr (.inl (some 303))), some (.inr (.inl (some 314))), some (.inr (.inl (some 315))), some (.inl x5), none, none, none], [.inl y0], (J, L, W), c, sl) Qr Qx := by
  refine nw_istore l_L_law_1324 1326 rfl rfl (ls' := [some (.inr (.inl (some 1000000))), some (.inr (.inl (some 0))), some (.inr (.inl (some 303))), some (.inr (.inl (some 314))), some (.inr (.inl (some 315))), some (.inl x5), some (.inl y0), none, none]) rfl ?_
  refine nw_aload_n l_L_law_1326 1327 rfl rfl ?_
  refine nw_aload_n l_L_law_1327 1328 rfl rfl ?_
  refine nw_iload l_L_law_1328 1330 rfl rfl ?_
  refine nw_iconst (len := 0) l_L_law_1330 1331 rfl c_1 ?_
  have o1 := h.1
  replace h := h.2
  refine nw_iadd l_L_law_1331 1332 rfl o1 ?_
  have o2 := h.1
  replace h := h.2
  refine nw_sald l_L_law_1332 1333 rfl o2 ?_
  refine nw_call0 3 303 l_L_law_1333 rfl rfl g_X12_isStranded (Nat.lt_of_lt_of_le (by decide) hD) rfl (Or.inl ⟨_, rfl, k_303⟩) (ls' := [some (.inr (.inl (some 303))), some (.inl (nw_sc sc (x5 + 1)))]) rfl (st' := []) rfl 1336 rfl ?_
  exact h
theorem b_L_law_1387 {x5 : Int} {y0 : Int} (hD : 18 ≤ D) (h : ((-2147483648 ≤ x5 + 1 ∧ x5 + 1 < 2147483648) ∧ ((0 ≤ x5 + 1 ∧ x5 + 1 < (sc.1 : Int)) ∧ NW sc d_X12_loadOf 2 (0, [some (.inr (.inl (some 303))), some (.inl (nw_sc sc (x5 + 1)))], [], (J, L, W), 0, 0) (fun v M9 => NW sc d_L_law D (1399, [some (.inr (.inl (some 1000000))), some (.inr (.inl (some 0))), some (.inr (.inl (some 303))), some (.inr (.inl (some 314))), some (.inr (.inl (some 315))), some (.inl x5), some (.inl y0), none, none], nw_push v [], M9, c, sl) Qr Qx) Qx))) :
    NW sc d_L_law D (1387, [some (.inr (.inl (some 1000000))), some (.inr (.inl (some 0))), some (.inr (.inl (some 303))), some (.inr (.inl (some 314))), some (.inr (.inl (some 315))), some (.inl x5), none, none, none], [.inl y0], (J, L, W), c, sl) Qr Qx := by
  refine nw_istore l_L_law_1387 1389 rfl rfl (ls' := [some (.inr (.inl (some 1000000))), some (.inr (.inl (some 0))), some (.inr (.inl (some 303))), some (.inr (.inl (some 314))), some (.inr (.inl (some 315))), some (.inl x5), some (.inl y0), none, none]) rfl ?_
  refine nw_aload_n l_L_law_1389 1390 rfl rfl ?_
  refine nw_aload_n l_L_law_1390 1391 rfl rfl ?_
  refine nw_iload l_L_law_1391 1393 rfl rfl ?_
  refine nw_iconst (len := 0) l_L_law_1393 1394 rfl c_1 ?_
  have o1 := h.1
  replace h := h.2
  refine nw_iadd l_L_law_1394 1395 rfl o1 ?_
  have o2 := h.1
  replace h := h.2
  refine nw_sald l_L_law_1395 1396 rfl o2 ?_
  refine nw_call0 2 303 l_L_law_1396 rfl rfl g_X12_loadOf (Nat.lt_of_lt_of_le (by decide) hD) rfl (Or.inl ⟨_, rfl, k_303⟩) (ls' := [some (.inr (.inl (some 303))), some (.inl (nw_sc sc (x5 + 1)))]) rfl (st' := []) rfl 1399 rfl ?_
  exact h
theorem b_L_law_1449 {x5 : Int} {y0 : Int} (hD : 18 ≤ D) (h : ((-2147483648 ≤ x5 + 1 ∧ x5 + 1 < 2147483648) ∧ ((0 ≤ x5 + 1 ∧ x5 + 1 < (sc.1 : Int)) ∧ ((-2147483648 ≤ x5 + 2 ∧ x5 + 2 < 2147483648) ∧ ((0 ≤ x5 + 2 ∧ x5 + 2 < (sc.1 : Int)) ∧ NW sc d_X12_earliestArrival 3 (0, [some (.inr (.inl (some 303))), some (.inl (nw_sc sc (x5 + 1))), some (.inl (nw_sc sc (x5 + 2))), none, none], [], (J, L, W), 0, 0) (fun v M9 => NW sc d_L_law D (1467, [some (.inr (.inl (some 1000000))), some (.inr (.inl (some 0))), some (.inr (.inl (some 303))), some (.inr (.inl (some 314))), some (.inr (.inl (some 315))), some (.inl x5), some (.inl y0), none, none], nw_push v [], M9, c, sl) Qr Qx) Qx))))) :
    NW sc d_L_law D (1449, [some (.inr (.inl (some 1000000))), some (.inr (.inl (some 0))), some (.inr (.inl (some 303))), some (.inr (.inl (some 314))), some (.inr (.inl (some 315))), some (.inl x5), none, none, none], [.inl y0], (J, L, W), c, sl) Qr Qx := by
  refine nw_istore l_L_law_1449 1451 rfl rfl (ls' := [some (.inr (.inl (some 1000000))), some (.inr (.inl (some 0))), some (.inr (.inl (some 303))), some (.inr (.inl (some 314))), some (.inr (.inl (some 315))), some (.inl x5), some (.inl y0), none, none]) rfl ?_
  refine nw_aload_n l_L_law_1451 1452 rfl rfl ?_
  refine nw_aload_n l_L_law_1452 1453 rfl rfl ?_
  refine nw_iload l_L_law_1453 1455 rfl rfl ?_
  refine nw_iconst (len := 0) l_L_law_1455 1456 rfl c_1 ?_
  have o1 := h.1
  replace h := h.2
  refine nw_iadd l_L_law_1456 1457 rfl o1 ?_
  have o2 := h.1
  replace h := h.2
  refine nw_sald l_L_law_1457 1458 rfl o2 ?_
  refine nw_aload_n l_L_law_1458 1459 rfl rfl ?_
  refine nw_iload l_L_law_1459 1461 rfl rfl ?_
  refine nw_iconst (len := 0) l_L_law_1461 1462 rfl c_2 ?_
  have o3 := h.1
  replace h := h.2
  refine nw_iadd l_L_law_1462 1463 rfl o3 ?_
  have o4 := h.1
  replace h := h.2
  refine nw_sald l_L_law_1463 1464 rfl o4 ?_
  refine nw_call0 3 303 l_L_law_1464 rfl rfl g_X12_earliestArrival (Nat.lt_of_lt_of_le (by decide) hD) rfl (Or.inl ⟨_, rfl, k_303⟩) (ls' := [some (.inr (.inl (some 303))), some (.inl (nw_sc sc (x5 + 1))), some (.inl (nw_sc sc (x5 + 2))), none, none]) rfl (st' := []) rfl 1467 rfl ?_
  exact h
theorem b_L_law_1517 {x5 : Int} {y0 : Int} (hD : 18 ≤ D) (h : ((-2147483648 ≤ x5 + 1 ∧ x5 + 1 < 2147483648) ∧ ((0 ≤ x5 + 1 ∧ x5 + 1 < (sc.1 : Int)) ∧ ((-2147483648 ≤ x5 + 2 ∧ x5 + 2 < 2147483648) ∧ ((0 ≤ x5 + 2 ∧ x5 + 2 < (sc.1 : Int)) ∧ NW sc d_X12_earliestArrivalByHours 4 (0, [some (.inr (.inl (some 303))), some (.inl (nw_sc sc (x5 + 1))), some (.inl (nw_sc sc (x5 + 2)))], [], (J, L, W), 0, 0) (fun v M9 => NW sc d_L_law D (1535, [some (.inr (.inl (some 1000000))), some (.inr (.inl (some 0))), some (.inr (.inl (some 303))), some (.inr (.inl (some 314))), some (.inr (.inl (some 315))), some (.inl x5), some (.inl y0), none, none], nw_push v [], M9, c, sl) Qr Qx) Qx))))) :
    NW sc d_L_law D (1517, [some (.inr (.inl (some 1000000))), some (.inr (.inl (some 0))), some (.inr (.inl (some 303))), some (.inr (.inl (some 314))), some (.inr (.inl (some 315))), some (.inl x5), none, none, none], [.inl y0], (J, L, W), c, sl) Qr Qx := by
  refine nw_istore l_L_law_1517 1519 rfl rfl (ls' := [some (.inr (.inl (some 1000000))), some (.inr (.inl (some 0))), some (.inr (.inl (some 303))), some (.inr (.inl (some 314))), some (.inr (.inl (some 315))), some (.inl x5), some (.inl y0), none, none]) rfl ?_
  refine nw_aload_n l_L_law_1519 1520 rfl rfl ?_
  refine nw_aload_n l_L_law_1520 1521 rfl rfl ?_
  refine nw_iload l_L_law_1521 1523 rfl rfl ?_
  refine nw_iconst (len := 0) l_L_law_1523 1524 rfl c_1 ?_
  have o1 := h.1
  replace h := h.2
  refine nw_iadd l_L_law_1524 1525 rfl o1 ?_
  have o2 := h.1
  replace h := h.2
  refine nw_sald l_L_law_1525 1526 rfl o2 ?_
  refine nw_aload_n l_L_law_1526 1527 rfl rfl ?_
  refine nw_iload l_L_law_1527 1529 rfl rfl ?_
  refine nw_iconst (len := 0) l_L_law_1529 1530 rfl c_2 ?_
  have o3 := h.1
  replace h := h.2
  refine nw_iadd l_L_law_1530 1531 rfl o3 ?_
  have o4 := h.1
  replace h := h.2
  refine nw_sald l_L_law_1531 1532 rfl o4 ?_
  refine nw_call0 4 303 l_L_law_1532 rfl rfl g_X12_earliestArrivalByHours (Nat.lt_of_lt_of_le (by decide) hD) rfl (Or.inl ⟨_, rfl, k_303⟩) (ls' := [some (.inr (.inl (some 303))), some (.inl (nw_sc sc (x5 + 1))), some (.inl (nw_sc sc (x5 + 2)))]) rfl (st' := []) rfl 1535 rfl ?_
  exact h
theorem b_L_law_1597 {x5 : Int} {y0 : Int} (hD : 18 ≤ D) (h : ((-2147483648 ≤ x5 + 1 ∧ x5 + 1 < 2147483648) ∧ ((0 ≤ x5 + 1 ∧ x5 + 1 < (sc.1 : Int)) ∧ ((-2147483648 ≤ x5 + 2 ∧ x5 + 2 < 2147483648) ∧ ((0 ≤ x5 + 2 ∧ x5 + 2 < (sc.1 : Int)) ∧ ((-2147483648 ≤ x5 + 3 ∧ x5 + 3 < 2147483648) ∧ ((0 ≤ x5 + 3 ∧ x5 + 3 < (sc.1 : Int)) ∧ ((-2147483648 ≤ x5 + 4 ∧ x5 + 4 < 2147483648) ∧ ((0 ≤ x5 + 4 ∧ x5 + 4 < (sc.1 : Int)) ∧ NW sc d_X12_addMoon 4 (0, [some (.inr (.inl (some 303))), some (.inl (nw_sc sc (x5 + 1))), some (.inl (nw_sc sc (x5 + 2))), some (.inl (nw_sc sc (x5 + 3))), some (.inl (nw_sc sc (x5 + 4)))], [], (J, L, W), 0, 0) (fun v M9 => NW sc d_L_law D (1627, [some (.inr (.inl (some 1000000))), some (.inr (.inl (some 0))), some (.inr (.inl (some 303))), some (.inr (.inl (some 314))), some (.inr (.inl (some 315))), some (.inl x5), some (.inl y0), none, none], nw_push v [], M9, c, sl) Qr Qx) Qx))))))))) :
    NW sc d_L_law D (1597, [some (.inr (.inl (some 1000000))), some (.inr (.inl (some 0))), some (.inr (.inl (some 303))), some (.inr (.inl (some 314))), some (.inr (.inl (some 315))), some (.inl x5), none, none, none], [.inl y0], (J, L, W), c, sl) Qr Qx := by
  refine nw_istore l_L_law_1597 1599 rfl rfl (ls' := [some (.inr (.inl (some 1000000))), some (.inr (.inl (some 0))), some (.inr (.inl (some 303))), some (.inr (.inl (some 314))), some (.inr (.inl (some 315))), some (.inl x5), some (.inl y0), none, none]) rfl ?_
  refine nw_aload_n l_L_law_1599 1600 rfl rfl ?_
  refine nw_aload_n l_L_law_1600 1601 rfl rfl ?_
  refine nw_iload l_L_law_1601 1603 rfl rfl ?_
  refine nw_iconst (len := 0) l_L_law_1603 1604 rfl c_1 ?_
  have o1 := h.1
  replace h := h.2
  refine nw_iadd l_L_law_1604 1605 rfl o1 ?_
  have o2 := h.1
  replace h := h.2
  refine nw_sald l_L_law_1605 1606 rfl o2 ?_
  refine nw_aload_n l_L_law_1606 1607 rfl rfl ?_
  refine nw_iload l_L_law_1607 1609 rfl rfl ?_
  refine nw_iconst (len := 0) l_L_law_1609 1610 rfl c_2 ?_
  have o3 := h.1
  replace h := h.2
  refine nw_iadd l_L_law_1610 1611 rfl o3 ?_
  have o4 := h.1
  replace h := h.2
  refine nw_sald l_L_law_1611 1612 rfl o4 ?_
  refine nw_aload_n l_L_law_1612 1613 rfl rfl ?_
  refine nw_iload l_L_law_1613 1615 rfl rfl ?_
  refine nw_iconst (len := 0) l_L_law_1615 1616 rfl c_3 ?_
  have o5 := h.1
  replace h := h.2
  refine nw_iadd l_L_law_1616 1617 rfl o5 ?_
  have o6 := h.1
  replace h := h.2
  refine nw_sald l_L_law_1617 1618 rfl o6 ?_
  refine nw_aload_n l_L_law_1618 1619 rfl rfl ?_
  refine nw_iload l_L_law_1619 1621 rfl rfl ?_
  refine nw_iconst (len := 0) l_L_law_1621 1622 rfl c_4 ?_
  have o7 := h.1
  replace h := h.2
  refine nw_iadd l_L_law_1622 1623 rfl o7 ?_
  have o8 := h.1
  replace h := h.2
  refine nw_sald l_L_law_1623 1624 rfl o8 ?_
  refine nw_call0 4 303 l_L_law_1624 rfl rfl g_X12_addMoon (Nat.lt_of_lt_of_le (by decide) hD) rfl (Or.inl ⟨_, rfl, k_303⟩) (ls' := [some (.inr (.inl (some 303))), some (.inl (nw_sc sc (x5 + 1))), some (.inl (nw_sc sc (x5 + 2))), some (.inl (nw_sc sc (x5 + 3))), some (.inl (nw_sc sc (x5 + 4)))]) rfl (st' := []) rfl 1627 rfl ?_
  exact h
theorem b_L_law_1677 {x5 : Int} {y0 : Int} (hD : 18 ≤ D) (h : ((-2147483648 ≤ x5 + 1 ∧ x5 + 1 < 2147483648) ∧ ((0 ≤ x5 + 1 ∧ x5 + 1 < (sc.1 : Int)) ∧ ((-2147483648 ≤ x5 + 2 ∧ x5 + 2 < 2147483648) ∧ ((0 ≤ x5 + 2 ∧ x5 + 2 < (sc.1 : Int)) ∧ NW sc d_X12_board 4 (0, [some (.inr (.inl (some 303))), some (.inl (nw_sc sc (x5 + 1))), some (.inl (nw_sc sc (x5 + 2)))], [], (J, L, W), 0, 0) (fun v M9 => NW sc d_L_law D (1695, [some (.inr (.inl (some 1000000))), some (.inr (.inl (some 0))), some (.inr (.inl (some 303))), some (.inr (.inl (some 314))), some (.inr (.inl (some 315))), some (.inl x5), some (.inl y0), none, none], nw_push v [], M9, c, sl) Qr Qx) Qx))))) :
    NW sc d_L_law D (1677, [some (.inr (.inl (some 1000000))), some (.inr (.inl (some 0))), some (.inr (.inl (some 303))), some (.inr (.inl (some 314))), some (.inr (.inl (some 315))), some (.inl x5), none, none, none], [.inl y0], (J, L, W), c, sl) Qr Qx := by
  refine nw_istore l_L_law_1677 1679 rfl rfl (ls' := [some (.inr (.inl (some 1000000))), some (.inr (.inl (some 0))), some (.inr (.inl (some 303))), some (.inr (.inl (some 314))), some (.inr (.inl (some 315))), some (.inl x5), some (.inl y0), none, none]) rfl ?_
  refine nw_aload_n l_L_law_1679 1680 rfl rfl ?_
  refine nw_aload_n l_L_law_1680 1681 rfl rfl ?_
  refine nw_iload l_L_law_1681 1683 rfl rfl ?_
  refine nw_iconst (len := 0) l_L_law_1683 1684 rfl c_1 ?_
  have o1 := h.1
  replace h := h.2
  refine nw_iadd l_L_law_1684 1685 rfl o1 ?_
  have o2 := h.1
  replace h := h.2
  refine nw_sald l_L_law_1685 1686 rfl o2 ?_
  refine nw_aload_n l_L_law_1686 1687 rfl rfl ?_
  refine nw_iload l_L_law_1687 1689 rfl rfl ?_
  refine nw_iconst (len := 0) l_L_law_1689 1690 rfl c_2 ?_
  have o3 := h.1
  replace h := h.2
  refine nw_iadd l_L_law_1690 1691 rfl o3 ?_
  have o4 := h.1
  replace h := h.2
  refine nw_sald l_L_law_1691 1692 rfl o4 ?_
  refine nw_call0 4 303 l_L_law_1692 rfl rfl g_X12_board (Nat.lt_of_lt_of_le (by decide) hD) rfl (Or.inl ⟨_, rfl, k_303⟩) (ls' := [some (.inr (.inl (some 303))), some (.inl (nw_sc sc (x5 + 1))), some (.inl (nw_sc sc (x5 + 2)))]) rfl (st' := []) rfl 1695 rfl ?_
  exact h
theorem b_L_law_1739 {x5 : Int} {y0 : Int} (hD : 18 ≤ D) (h : ((-2147483648 ≤ x5 + 1 ∧ x5 + 1 < 2147483648) ∧ ((0 ≤ x5 + 1 ∧ x5 + 1 < (sc.1 : Int)) ∧ NW sc d_X12_land 4 (0, [some (.inr (.inl (some 303))), some (.inl (nw_sc sc (x5 + 1)))], [], (J, L, W), 0, 0) (fun v M9 => NW sc d_L_law D (1751, [some (.inr (.inl (some 1000000))), some (.inr (.inl (some 0))), some (.inr (.inl (some 303))), some (.inr (.inl (some 314))), some (.inr (.inl (some 315))), some (.inl x5), some (.inl y0), none, none], nw_push v [], M9, c, sl) Qr Qx) Qx))) :
    NW sc d_L_law D (1739, [some (.inr (.inl (some 1000000))), some (.inr (.inl (some 0))), some (.inr (.inl (some 303))), some (.inr (.inl (some 314))), some (.inr (.inl (some 315))), some (.inl x5), none, none, none], [.inl y0], (J, L, W), c, sl) Qr Qx := by
  refine nw_istore l_L_law_1739 1741 rfl rfl (ls' := [some (.inr (.inl (some 1000000))), some (.inr (.inl (some 0))), some (.inr (.inl (some 303))), some (.inr (.inl (some 314))), some (.inr (.inl (some 315))), some (.inl x5), some (.inl y0), none, none]) rfl ?_
  refine nw_aload_n l_L_law_1741 1742 rfl rfl ?_
  refine nw_aload_n l_L_law_1742 1743 rfl rfl ?_
  refine nw_iload l_L_law_1743 1745 rfl rfl ?_
  refine nw_iconst (len := 0) l_L_law_1745 1746 rfl c_1 ?_
  have o1 := h.1
  replace h := h.2
  refine nw_iadd l_L_law_1746 1747 rfl o1 ?_
  have o2 := h.1
  replace h := h.2
  refine nw_sald l_L_law_1747 1748 rfl o2 ?_
  refine nw_call0 4 303 l_L_law_1748 rfl rfl g_X12_land (Nat.lt_of_lt_of_le (by decide) hD) rfl (Or.inl ⟨_, rfl, k_303⟩) (ls' := [some (.inr (.inl (some 303))), some (.inl (nw_sc sc (x5 + 1)))]) rfl (st' := []) rfl 1751 rfl ?_
  exact h
theorem b_L_law_1795 {x5 : Int} {y0 : Int} (hD : 18 ≤ D) (h : ((-2147483648 ≤ x5 + 1 ∧ x5 + 1 < 2147483648) ∧ ((0 ≤ x5 + 1 ∧ x5 + 1 < (sc.1 : Int)) ∧ NW sc d_X12_loadBest 4 (0, [some (.inr (.inl (some 303))), some (.inl (nw_sc sc (x5 + 1)))], [], (J, L, W), 0, 0) (fun v M9 => NW sc d_L_law D (1807, [some (.inr (.inl (some 1000000))), some (.inr (.inl (some 0))), some (.inr (.inl (some 303))), some (.inr (.inl (some 314))), some (.inr (.inl (some 315))), some (.inl x5), some (.inl y0), none, none], nw_push v [], M9, c, sl) Qr Qx) Qx))) :
    NW sc d_L_law D (1795, [some (.inr (.inl (some 1000000))), some (.inr (.inl (some 0))), some (.inr (.inl (some 303))), some (.inr (.inl (some 314))), some (.inr (.inl (some 315))), some (.inl x5), none, none, none], [.inl y0], (J, L, W), c, sl) Qr Qx := by
  refine nw_istore l_L_law_1795 1797 rfl rfl (ls' := [some (.inr (.inl (some 1000000))), some (.inr (.inl (some 0))), some (.inr (.inl (some 303))), some (.inr (.inl (some 314))), some (.inr (.inl (some 315))), some (.inl x5), some (.inl y0), none, none]) rfl ?_
  refine nw_aload_n l_L_law_1797 1798 rfl rfl ?_
  refine nw_aload_n l_L_law_1798 1799 rfl rfl ?_
  refine nw_iload l_L_law_1799 1801 rfl rfl ?_
  refine nw_iconst (len := 0) l_L_law_1801 1802 rfl c_1 ?_
  have o1 := h.1
  replace h := h.2
  refine nw_iadd l_L_law_1802 1803 rfl o1 ?_
  have o2 := h.1
  replace h := h.2
  refine nw_sald l_L_law_1803 1804 rfl o2 ?_
  refine nw_call0 4 303 l_L_law_1804 rfl rfl g_X12_loadBest (Nat.lt_of_lt_of_le (by decide) hD) rfl (Or.inl ⟨_, rfl, k_303⟩) (ls' := [some (.inr (.inl (some 303))), some (.inl (nw_sc sc (x5 + 1)))]) rfl (st' := []) rfl 1807 rfl ?_
  exact h
theorem b_L_law_1851 {x5 : Int} {y0 : Int} (hD : 18 ≤ D) (h : ((-2147483648 ≤ x5 + 1 ∧ x5 + 1 < 2147483648) ∧ ((0 ≤ x5 + 1 ∧ x5 + 1 < (sc.1 : Int)) ∧ NW sc d_X12_bestLoad 3 (0, [some (.inr (.inl (some 303))), some (.inl (nw_sc sc (x5 + 1))), none], [], (J, L, W), 0, 0) (fun v M9 => NW sc d_L_law D (1863, [some (.inr (.inl (some 1000000))), some (.inr (.inl (some 0))), some (.inr (.inl (some 303))), some (.inr (.inl (some 314))), some (.inr (.inl (some 315))), some (.inl x5), some (.inl y0), none, none], nw_push v [], M9, c, sl) Qr Qx) Qx))) :
    NW sc d_L_law D (1851, [some (.inr (.inl (some 1000000))), some (.inr (.inl (some 0))), some (.inr (.inl (some 303))), some (.inr (.inl (some 314))), some (.inr (.inl (some 315))), some (.inl x5), none, none, none], [.inl y0], (J, L, W), c, sl) Qr Qx := by
  refine nw_istore l_L_law_1851 1853 rfl rfl (ls' := [some (.inr (.inl (some 1000000))), some (.inr (.inl (some 0))), some (.inr (.inl (some 303))), some (.inr (.inl (some 314))), some (.inr (.inl (some 315))), some (.inl x5), some (.inl y0), none, none]) rfl ?_
  refine nw_aload_n l_L_law_1853 1854 rfl rfl ?_
  refine nw_aload_n l_L_law_1854 1855 rfl rfl ?_
  refine nw_iload l_L_law_1855 1857 rfl rfl ?_
  refine nw_iconst (len := 0) l_L_law_1857 1858 rfl c_1 ?_
  have o1 := h.1
  replace h := h.2
  refine nw_iadd l_L_law_1858 1859 rfl o1 ?_
  have o2 := h.1
  replace h := h.2
  refine nw_sald l_L_law_1859 1860 rfl o2 ?_
  refine nw_call0 3 303 l_L_law_1860 rfl rfl g_X12_bestLoad (Nat.lt_of_lt_of_le (by decide) hD) rfl (Or.inl ⟨_, rfl, k_303⟩) (ls' := [some (.inr (.inl (some 303))), some (.inl (nw_sc sc (x5 + 1))), none]) rfl (st' := []) rfl 1863 rfl ?_
  exact h
theorem b_L_law_1907 {x5 : Int} {y0 : Int} (hD : 18 ≤ D) (h : ((-2147483648 ≤ x5 + 1 ∧ x5 + 1 < 2147483648) ∧ ((0 ≤ x5 + 1 ∧ x5 + 1 < (sc.1 : Int)) ∧ NW sc d_X12_bestLoadByTable 4 (0, [some (.inr (.inl (some 303))), some (.inl (nw_sc sc (x5 + 1)))], [], (J, L, W), 0, 0) (fun v M9 => NW sc d_L_law D (1919, [some (.inr (.inl (some 1000000))), some (.inr (.inl (some 0))), some (.inr (.inl (some 303))), some (.inr (.inl (some 314))), some (.inr (.inl (some 315))), some (.inl x5), some (.inl y0), none, none], nw_push v [], M9, c, sl) Qr Qx) Qx))) :
    NW sc d_L_law D (1907, [some (.inr (.inl (some 1000000))), some (.inr (.inl (some 0))), some (.inr (.inl (some 303))), some (.inr (.inl (some 314))), some (.inr (.inl (some 315))), some (.inl x5), none, none, none], [.inl y0], (J, L, W), c, sl) Qr Qx := by
  refine nw_istore l_L_law_1907 1909 rfl rfl (ls' := [some (.inr (.inl (some 1000000))), some (.inr (.inl (some 0))), some (.inr (.inl (some 303))), some (.inr (.inl (some 314))), some (.inr (.inl (some 315))), some (.inl x5), some (.inl y0), none, none]) rfl ?_
  refine nw_aload_n l_L_law_1909 1910 rfl rfl ?_
  refine nw_aload_n l_L_law_1910 1911 rfl rfl ?_
  refine nw_iload l_L_law_1911 1913 rfl rfl ?_
  refine nw_iconst (len := 0) l_L_law_1913 1914 rfl c_1 ?_
  have o1 := h.1
  replace h := h.2
  refine nw_iadd l_L_law_1914 1915 rfl o1 ?_
  have o2 := h.1
  replace h := h.2
  refine nw_sald l_L_law_1915 1916 rfl o2 ?_
  refine nw_call0 4 303 l_L_law_1916 rfl rfl g_X12_bestLoadByTable (Nat.lt_of_lt_of_le (by decide) hD) rfl (Or.inl ⟨_, rfl, k_303⟩) (ls' := [some (.inr (.inl (some 303))), some (.inl (nw_sc sc (x5 + 1)))]) rfl (st' := []) rfl 1919 rfl ?_
  exact h
theorem b_L_law_1963 {x5 : Int} {y0 : Int} (hD : 18 ≤ D) (h : ((-2147483648 ≤ x5 + 1 ∧ x5 + 1 < 2147483648) ∧ ((0 ≤ x5 + 1 ∧ x5 + 1 < (sc.1 : Int)) ∧ NW sc d_X12_rescue 4 (0, [some (.inr (.inl (some 303))), some (.inl (nw_sc sc (x5 + 1)))], [], (J, L, W), 0, 0) (fun v M9 => NW sc d_L_law D (1975, [some (.inr (.inl (some 1000000))), some (.inr (.inl (some 0))), some (.inr (.inl (some 303))), some (.inr (.inl (some 314))), some (.inr (.inl (some 315))), some (.inl x5), some (.inl y0), none, none], nw_push v [], M9, c, sl) Qr Qx) Qx))) :
    NW sc d_L_law D (1963, [some (.inr (.inl (some 1000000))), some (.inr (.inl (some 0))), some (.inr (.inl (some 303))), some (.inr (.inl (some 314))), some (.inr (.inl (some 315))), some (.inl x5), none, none, none], [.inl y0], (J, L, W), c, sl) Qr Qx := by
  refine nw_istore l_L_law_1963 1965 rfl rfl (ls' := [some (.inr (.inl (some 1000000))), some (.inr (.inl (some 0))), some (.inr (.inl (some 303))), some (.inr (.inl (some 314))), some (.inr (.inl (some 315))), some (.inl x5), some (.inl y0), none, none]) rfl ?_
  refine nw_aload_n l_L_law_1965 1966 rfl rfl ?_
  refine nw_aload_n l_L_law_1966 1967 rfl rfl ?_
  refine nw_iload l_L_law_1967 1969 rfl rfl ?_
  refine nw_iconst (len := 0) l_L_law_1969 1970 rfl c_1 ?_
  have o1 := h.1
  replace h := h.2
  refine nw_iadd l_L_law_1970 1971 rfl o1 ?_
  have o2 := h.1
  replace h := h.2
  refine nw_sald l_L_law_1971 1972 rfl o2 ?_
  refine nw_call0 4 303 l_L_law_1972 rfl rfl g_X12_rescue (Nat.lt_of_lt_of_le (by decide) hD) rfl (Or.inl ⟨_, rfl, k_303⟩) (ls' := [some (.inr (.inl (some 303))), some (.inl (nw_sc sc (x5 + 1)))]) rfl (st' := []) rfl 1975 rfl ?_
  exact h
theorem b_L_law_2012 {x5 : Int} {y0 : Int} (hD : 18 ≤ D) (h : NW sc d_X12_moonCount 1 (0, [some (.inr (.inl (some 303)))], [], (J, L, W), 0, 0) (fun v M9 => NW sc d_L_law D (2016, [some (.inr (.inl (some 1000000))), some (.inr (.inl (some 0))), some (.inr (.inl (some 303))), some (.inr (.inl (some 314))), some (.inr (.inl (some 315))), some (.inl x5), none, none, none], nw_push v [.inl y0], M9, c, sl) Qr Qx) Qx) :
    NW sc d_L_law D (2012, [some (.inr (.inl (some 1000000))), some (.inr (.inl (some 0))), some (.inr (.inl (some 303))), some (.inr (.inl (some 314))), some (.inr (.inl (some 315))), some (.inl x5), none, none, none], [.inl y0], (J, L, W), c, sl) Qr Qx := by
  refine nw_aload_n l_L_law_2012 2013 rfl rfl ?_
  refine nw_call0 1 303 l_L_law_2013 rfl rfl g_X12_moonCount (Nat.lt_of_lt_of_le (by decide) hD) rfl (Or.inl ⟨_, rfl, k_303⟩) (ls' := [some (.inr (.inl (some 303)))]) rfl (st' := [.inl y0]) rfl 2016 rfl ?_
  exact h
theorem b_L_law_2032 {x5 : Int} {y0 : Int} (hD : 18 ≤ D) (h : ((-2147483648 ≤ x5 + 1 ∧ x5 + 1 < 2147483648) ∧ ((0 ≤ x5 + 1 ∧ x5 + 1 < (sc.1 : Int)) ∧ NW sc d_X12_moonAt 1 (0, [some (.inr (.inl (some 303))), some (.inl (nw_sc sc (x5 + 1)))], [], (J, L, W), 0, 0) (fun v M9 => NW sc d_L_law D (2044, [some (.inr (.inl (some 1000000))), some (.inr (.inl (some 0))), some (.inr (.inl (some 303))), some (.inr (.inl (some 314))), some (.inr (.inl (some 315))), some (.inl x5), some (.inl y0), none, none], nw_push v [], M9, c, sl) Qr Qx) Qx))) :
    NW sc d_L_law D (2032, [some (.inr (.inl (some 1000000))), some (.inr (.inl (some 0))), some (.inr (.inl (some 303))), some (.inr (.inl (some 314))), some (.inr (.inl (some 315))), some (.inl x5), none, none, none], [.inl y0], (J, L, W), c, sl) Qr Qx := by
  refine nw_istore l_L_law_2032 2034 rfl rfl (ls' := [some (.inr (.inl (some 1000000))), some (.inr (.inl (some 0))), some (.inr (.inl (some 303))), some (.inr (.inl (some 314))), some (.inr (.inl (some 315))), some (.inl x5), some (.inl y0), none, none]) rfl ?_
  refine nw_aload_n l_L_law_2034 2035 rfl rfl ?_
  refine nw_aload_n l_L_law_2035 2036 rfl rfl ?_
  refine nw_iload l_L_law_2036 2038 rfl rfl ?_
  refine nw_iconst (len := 0) l_L_law_2038 2039 rfl c_1 ?_
  have o1 := h.1
  replace h := h.2
  refine nw_iadd l_L_law_2039 2040 rfl o1 ?_
  have o2 := h.1
  replace h := h.2
  refine nw_sald l_L_law_2040 2041 rfl o2 ?_
  refine nw_call0 1 303 l_L_law_2041 rfl rfl g_X12_moonAt (Nat.lt_of_lt_of_le (by decide) hD) rfl (Or.inl ⟨_, rfl, k_303⟩) (ls' := [some (.inr (.inl (some 303))), some (.inl (nw_sc sc (x5 + 1)))]) rfl (st' := []) rfl 2044 rfl ?_
  exact h
theorem b_L_law_2088 {x5 : Int} {y0 : Int} (hD : 18 ≤ D) (h : ((-2147483648 ≤ x5 + 1 ∧ x5 + 1 < 2147483648) ∧ ((0 ≤ x5 + 1 ∧ x5 + 1 < (sc.1 : Int)) ∧ NW sc d_X12_ferryOf 1 (0, [some (.inr (.inl (some 303))), some (.inl (nw_sc sc (x5 + 1))), none], [], (J, L, W), 0, 0) (fun v M9 => NW sc d_L_law D (2100, [some (.inr (.inl (some 1000000))), some (.inr (.inl (some 0))), some (.inr (.inl (some 303))), some (.inr (.inl (some 314))), some (.inr (.inl (some 315))), some (.inl x5), some (.inl y0), none, none], nw_push v [], M9, c, sl) Qr Qx) Qx))) :
    NW sc d_L_law D (2088, [some (.inr (.inl (some 1000000))), some (.inr (.inl (some 0))), some (.inr (.inl (some 303))), some (.inr (.inl (some 314))), some (.inr (.inl (some 315))), some (.inl x5), none, none, none], [.inl y0], (J, L, W), c, sl) Qr Qx := by
  refine nw_istore l_L_law_2088 2090 rfl rfl (ls' := [some (.inr (.inl (some 1000000))), some (.inr (.inl (some 0))), some (.inr (.inl (some 303))), some (.inr (.inl (some 314))), some (.inr (.inl (some 315))), some (.inl x5), some (.inl y0), none, none]) rfl ?_
  refine nw_aload_n l_L_law_2090 2091 rfl rfl ?_
  refine nw_aload_n l_L_law_2091 2092 rfl rfl ?_
  refine nw_iload l_L_law_2092 2094 rfl rfl ?_
  refine nw_iconst (len := 0) l_L_law_2094 2095 rfl c_1 ?_
  have o1 := h.1
  replace h := h.2
  refine nw_iadd l_L_law_2095 2096 rfl o1 ?_
  have o2 := h.1
  replace h := h.2
  refine nw_sald l_L_law_2096 2097 rfl o2 ?_
  refine nw_call0 1 303 l_L_law_2097 rfl rfl g_X12_ferryOf (Nat.lt_of_lt_of_le (by decide) hD) rfl (Or.inl ⟨_, rfl, k_303⟩) (ls' := [some (.inr (.inl (some 303))), some (.inl (nw_sc sc (x5 + 1))), none]) rfl (st' := []) rfl 2100 rfl ?_
  exact h
theorem b_L_law_2144 {x5 : Int} {y0 : Int} (hD : 18 ≤ D) (h : ((-2147483648 ≤ x5 + 1 ∧ x5 + 1 < 2147483648) ∧ ((0 ≤ x5 + 1 ∧ x5 + 1 < (sc.1 : Int)) ∧ NW sc d_X12_shoreOf 1 (0, [some (.inr (.inl (some 303))), some (.inl (nw_sc sc (x5 + 1))), none], [], (J, L, W), 0, 0) (fun v M9 => NW sc d_L_law D (2156, [some (.inr (.inl (some 1000000))), some (.inr (.inl (some 0))), some (.inr (.inl (some 303))), some (.inr (.inl (some 314))), some (.inr (.inl (some 315))), some (.inl x5), some (.inl y0), none, none], nw_push v [], M9, c, sl) Qr Qx) Qx))) :
    NW sc d_L_law D (2144, [some (.inr (.inl (some 1000000))), some (.inr (.inl (some 0))), some (.inr (.inl (some 303))), some (.inr (.inl (some 314))), some (.inr (.inl (some 315))), some (.inl x5), none, none, none], [.inl y0], (J, L, W), c, sl) Qr Qx := by
  refine nw_istore l_L_law_2144 2146 rfl rfl (ls' := [some (.inr (.inl (some 1000000))), some (.inr (.inl (some 0))), some (.inr (.inl (some 303))), some (.inr (.inl (some 314))), some (.inr (.inl (some 315))), some (.inl x5), some (.inl y0), none, none]) rfl ?_
  refine nw_aload_n l_L_law_2146 2147 rfl rfl ?_
  refine nw_aload_n l_L_law_2147 2148 rfl rfl ?_
  refine nw_iload l_L_law_2148 2150 rfl rfl ?_
  refine nw_iconst (len := 0) l_L_law_2150 2151 rfl c_1 ?_
  have o1 := h.1
  replace h := h.2
  refine nw_iadd l_L_law_2151 2152 rfl o1 ?_
  have o2 := h.1
  replace h := h.2
  refine nw_sald l_L_law_2152 2153 rfl o2 ?_
  refine nw_call0 1 303 l_L_law_2153 rfl rfl g_X12_shoreOf (Nat.lt_of_lt_of_le (by decide) hD) rfl (Or.inl ⟨_, rfl, k_303⟩) (ls' := [some (.inr (.inl (some 303))), some (.inl (nw_sc sc (x5 + 1))), none]) rfl (st' := []) rfl 2156 rfl ?_
  exact h
theorem b_L_law_2200 {x5 : Int} {y0 : Int} (hD : 18 ≤ D) (h : ((-2147483648 ≤ x5 + 1 ∧ x5 + 1 < 2147483648) ∧ ((0 ≤ x5 + 1 ∧ x5 + 1 < (sc.1 : Int)) ∧ NW sc d_X12_phaseOf 1 (0, [some (.inr (.inl (some 303))), some (.inl (nw_sc sc (x5 + 1))), none], [], (J, L, W), 0, 0) (fun v M9 => NW sc d_L_law D (2212, [some (.inr (.inl (some 1000000))), some (.inr (.inl (some 0))), some (.inr (.inl (some 303))), some (.inr (.inl (some 314))), some (.inr (.inl (some 315))), some (.inl x5), some (.inl y0), none, none], nw_push v [], M9, c, sl) Qr Qx) Qx))) :
    NW sc d_L_law D (2200, [some (.inr (.inl (some 1000000))), some (.inr (.inl (some 0))), some (.inr (.inl (some 303))), some (.inr (.inl (some 314))), some (.inr (.inl (some 315))), some (.inl x5), none, none, none], [.inl y0], (J, L, W), c, sl) Qr Qx := by
  refine nw_istore l_L_law_2200 2202 rfl rfl (ls' := [some (.inr (.inl (some 1000000))), some (.inr (.inl (some 0))), some (.inr (.inl (some 303))), some (.inr (.inl (some 314))), some (.inr (.inl (some 315))), some (.inl x5), some (.inl y0), none, none]) rfl ?_
  refine nw_aload_n l_L_law_2202 2203 rfl rfl ?_
  refine nw_aload_n l_L_law_2203 2204 rfl rfl ?_
  refine nw_iload l_L_law_2204 2206 rfl rfl ?_
  refine nw_iconst (len := 0) l_L_law_2206 2207 rfl c_1 ?_
  have o1 := h.1
  replace h := h.2
  refine nw_iadd l_L_law_2207 2208 rfl o1 ?_
  have o2 := h.1
  replace h := h.2
  refine nw_sald l_L_law_2208 2209 rfl o2 ?_
  refine nw_call0 1 303 l_L_law_2209 rfl rfl g_X12_phaseOf (Nat.lt_of_lt_of_le (by decide) hD) rfl (Or.inl ⟨_, rfl, k_303⟩) (ls' := [some (.inr (.inl (some 303))), some (.inl (nw_sc sc (x5 + 1))), none]) rfl (st' := []) rfl 2212 rfl ?_
  exact h
theorem b_L_law_2256 {x5 : Int} {y0 : Int} (hD : 18 ≤ D) (h : ((-2147483648 ≤ x5 + 1 ∧ x5 + 1 < 2147483648) ∧ ((0 ≤ x5 + 1 ∧ x5 + 1 < (sc.1 : Int)) ∧ NW sc d_X12_fareOf 1 (0, [some (.inr (.inl (some 303))), some (.inl (nw_sc sc (x5 + 1))), none], [], (J, L, W), 0, 0) (fun v M9 => NW sc d_L_law D (2268, [some (.inr (.inl (some 1000000))), some (.inr (.inl (some 0))), some (.inr (.inl (some 303))), some (.inr (.inl (some 314))), some (.inr (.inl (some 315))), some (.inl x5), some (.inl y0), none, none], nw_push v [], M9, c, sl) Qr Qx) Qx))) :
    NW sc d_L_law D (2256, [some (.inr (.inl (some 1000000))), some (.inr (.inl (some 0))), some (.inr (.inl (some 303))), some (.inr (.inl (some 314))), some (.inr (.inl (some 315))), some (.inl x5), none, none, none], [.inl y0], (J, L, W), c, sl) Qr Qx := by
  refine nw_istore l_L_law_2256 2258 rfl rfl (ls' := [some (.inr (.inl (some 1000000))), some (.inr (.inl (some 0))), some (.inr (.inl (some 303))), some (.inr (.inl (some 314))), some (.inr (.inl (some 315))), some (.inl x5), some (.inl y0), none, none]) rfl ?_
  refine nw_aload_n l_L_law_2258 2259 rfl rfl ?_
  refine nw_aload_n l_L_law_2259 2260 rfl rfl ?_
  refine nw_iload l_L_law_2260 2262 rfl rfl ?_
  refine nw_iconst (len := 0) l_L_law_2262 2263 rfl c_1 ?_
  have o1 := h.1
  replace h := h.2
  refine nw_iadd l_L_law_2263 2264 rfl o1 ?_
  have o2 := h.1
  replace h := h.2
  refine nw_sald l_L_law_2264 2265 rfl o2 ?_
  refine nw_call0 1 303 l_L_law_2265 rfl rfl g_X12_fareOf (Nat.lt_of_lt_of_le (by decide) hD) rfl (Or.inl ⟨_, rfl, k_303⟩) (ls' := [some (.inr (.inl (some 303))), some (.inl (nw_sc sc (x5 + 1))), none]) rfl (st' := []) rfl 2268 rfl ?_
  exact h
theorem b_L_law_2312 {x5 : Int} {y0 : Int} (hD : 18 ≤ D) (h : ((-2147483648 ≤ x5 + 1 ∧ x5 + 1 < 2147483648) ∧ ((0 ≤ x5 + 1 ∧ x5 + 1 < (sc.1 : Int)) ∧ NW sc d_X12_moonAtRank 1 (0, [some (.inr (.inl (some 303))), some (.inl (nw_sc sc (x5 + 1))), none, none, none, none], [], (J, L, W), 0, 0) (fun v M9 => NW sc d_L_law D (2324, [some (.inr (.inl (some 1000000))), some (.inr (.inl (some 0))), some (.inr (.inl (some 303))), some (.inr (.inl (some 314))), some (.inr (.inl (some 315))), some (.inl x5), some (.inl y0), none, none], nw_push v [], M9, c, sl) Qr Qx) Qx))) :
    NW sc d_L_law D (2312, [some (.inr (.inl (some 1000000))), some (.inr (.inl (some 0))), some (.inr (.inl (some 303))), some (.inr (.inl (some 314))), some (.inr (.inl (some 315))), some (.inl x5), none, none, none], [.inl y0], (J, L, W), c, sl) Qr Qx := by
  refine nw_istore l_L_law_2312 2314 rfl rfl (ls' := [some (.inr (.inl (some 1000000))), some (.inr (.inl (some 0))), some (.inr (.inl (some 303))), some (.inr (.inl (some 314))), some (.inr (.inl (some 315))), some (.inl x5), some (.inl y0), none, none]) rfl ?_
  refine nw_aload_n l_L_law_2314 2315 rfl rfl ?_
  refine nw_aload_n l_L_law_2315 2316 rfl rfl ?_
  refine nw_iload l_L_law_2316 2318 rfl rfl ?_
  refine nw_iconst (len := 0) l_L_law_2318 2319 rfl c_1 ?_
  have o1 := h.1
  replace h := h.2
  refine nw_iadd l_L_law_2319 2320 rfl o1 ?_
  have o2 := h.1
  replace h := h.2
  refine nw_sald l_L_law_2320 2321 rfl o2 ?_
  refine nw_call0 1 303 l_L_law_2321 rfl rfl g_X12_moonAtRank (Nat.lt_of_lt_of_le (by decide) hD) rfl (Or.inl ⟨_, rfl, k_303⟩) (ls' := [some (.inr (.inl (some 303))), some (.inl (nw_sc sc (x5 + 1))), none, none, none, none]) rfl (st' := []) rfl 2324 rfl ?_
  exact h
theorem b_L_law_2367 {x5 : Int} {y0 : Int} (hD : 18 ≤ D) (h : ((-2147483648 ≤ x5 + 1 ∧ x5 + 1 < 2147483648) ∧ ((0 ≤ x5 + 1 ∧ x5 + 1 < (sc.1 : Int)) ∧ NW sc d_X12_countBelow 1 (0, [some (.inr (.inl (some 303))), some (.inl (nw_sc sc (x5 + 1))), none, none], [], (J, L, W), 0, 0) (fun v M9 => NW sc d_L_law D (2377, [some (.inr (.inl (some 1000000))), some (.inr (.inl (some 0))), some (.inr (.inl (some 303))), some (.inr (.inl (some 314))), some (.inr (.inl (some 315))), some (.inl x5), none, none, none], nw_push v [.inl y0], M9, c, sl) Qr Qx) Qx))) :
    NW sc d_L_law D (2367, [some (.inr (.inl (some 1000000))), some (.inr (.inl (some 0))), some (.inr (.inl (some 303))), some (.inr (.inl (some 314))), some (.inr (.inl (some 315))), some (.inl x5), none, none, none], [.inl y0], (J, L, W), c, sl) Qr Qx := by
  refine nw_aload_n l_L_law_2367 2368 rfl rfl ?_
  refine nw_aload_n l_L_law_2368 2369 rfl rfl ?_
  refine nw_iload l_L_law_2369 2371 rfl rfl ?_
  refine nw_iconst (len := 0) l_L_law_2371 2372 rfl c_1 ?_
  have o1 := h.1
  replace h := h.2
  refine nw_iadd l_L_law_2372 2373 rfl o1 ?_
  have o2 := h.1
  replace h := h.2
  refine nw_sald l_L_law_2373 2374 rfl o2 ?_
  refine nw_call0 1 303 l_L_law_2374 rfl rfl g_X12_countBelow (Nat.lt_of_lt_of_le (by decide) hD) rfl (Or.inl ⟨_, rfl, k_303⟩) (ls' := [some (.inr (.inl (some 303))), some (.inl (nw_sc sc (x5 + 1))), none, none]) rfl (st' := [.inl y0]) rfl 2377 rfl ?_
  exact h
theorem b_L_law_2392 {x5 : Int} {y0 : Int} (hD : 18 ≤ D) (h : ((-2147483648 ≤ x5 + 1 ∧ x5 + 1 < 2147483648) ∧ ((0 ≤ x5 + 1 ∧ x5 + 1 < (sc.1 : Int)) ∧ NW sc d_X12_countBelowByAsking 2 (0, [some (.inr (.inl (some 303))), some (.inl (nw_sc sc (x5 + 1)))], [], (J, L, W), 0, 0) (fun v M9 => NW sc d_L_law D (2402, [some (.inr (.inl (some 1000000))), some (.inr (.inl (some 0))), some (.inr (.inl (some 303))), some (.inr (.inl (some 314))), some (.inr (.inl (some 315))), some (.inl x5), none, none, none], nw_push v [.inl y0], M9, c, sl) Qr Qx) Qx))) :
    NW sc d_L_law D (2392, [some (.inr (.inl (some 1000000))), some (.inr (.inl (some 0))), some (.inr (.inl (some 303))), some (.inr (.inl (some 314))), some (.inr (.inl (some 315))), some (.inl x5), none, none, none], [.inl y0], (J, L, W), c, sl) Qr Qx := by
  refine nw_aload_n l_L_law_2392 2393 rfl rfl ?_
  refine nw_aload_n l_L_law_2393 2394 rfl rfl ?_
  refine nw_iload l_L_law_2394 2396 rfl rfl ?_
  refine nw_iconst (len := 0) l_L_law_2396 2397 rfl c_1 ?_
  have o1 := h.1
  replace h := h.2
  refine nw_iadd l_L_law_2397 2398 rfl o1 ?_
  have o2 := h.1
  replace h := h.2
  refine nw_sald l_L_law_2398 2399 rfl o2 ?_
  refine nw_call0 2 303 l_L_law_2399 rfl rfl g_X12_countBelowByAsking (Nat.lt_of_lt_of_le (by decide) hD) rfl (Or.inl ⟨_, rfl, k_303⟩) (ls' := [some (.inr (.inl (some 303))), some (.inl (nw_sc sc (x5 + 1)))]) rfl (st' := [.inl y0]) rfl 2402 rfl ?_
  exact h
theorem b_L_law_2418 {x5 : Int} {y0 : Int} (hD : 18 ≤ D) (h : ((-2147483648 ≤ x5 + 1 ∧ x5 + 1 < 2147483648) ∧ ((0 ≤ x5 + 1 ∧ x5 + 1 < (sc.1 : Int)) ∧ NW sc d_X12_pass 5 (0, [some (.inr (.inl (some 303))), some (.inl (nw_sc sc (x5 + 1)))], [], (J, L, W), 0, 0) (fun v M9 => NW sc d_L_law D (2430, [some (.inr (.inl (some 1000000))), some (.inr (.inl (some 0))), some (.inr (.inl (some 303))), some (.inr (.inl (some 314))), some (.inr (.inl (some 315))), some (.inl x5), some (.inl y0), none, none], nw_push v [], M9, c, sl) Qr Qx) Qx))) :
    NW sc d_L_law D (2418, [some (.inr (.inl (some 1000000))), some (.inr (.inl (some 0))), some (.inr (.inl (some 303))), some (.inr (.inl (some 314))), some (.inr (.inl (some 315))), some (.inl x5), none, none, none], [.inl y0], (J, L, W), c, sl) Qr Qx := by
  refine nw_istore l_L_law_2418 2420 rfl rfl (ls' := [some (.inr (.inl (some 1000000))), some (.inr (.inl (some 0))), some (.inr (.inl (some 303))), some (.inr (.inl (some 314))), some (.inr (.inl (some 315))), some (.inl x5), some (.inl y0), none, none]) rfl ?_
  refine nw_aload_n l_L_law_2420 2421 rfl rfl ?_
  refine nw_aload_n l_L_law_2421 2422 rfl rfl ?_
  refine nw_iload l_L_law_2422 2424 rfl rfl ?_
  refine nw_iconst (len := 0) l_L_law_2424 2425 rfl c_1 ?_
  have o1 := h.1
  replace h := h.2
  refine nw_iadd l_L_law_2425 2426 rfl o1 ?_
  have o2 := h.1
  replace h := h.2
  refine nw_sald l_L_law_2426 2427 rfl o2 ?_
  refine nw_call0 5 303 l_L_law_2427 rfl rfl g_X12_pass (Nat.lt_of_lt_of_le (by decide) hD) rfl (Or.inl ⟨_, rfl, k_303⟩) (ls' := [some (.inr (.inl (some 303))), some (.inl (nw_sc sc (x5 + 1)))]) rfl (st' := []) rfl 2430 rfl ?_
  exact h
theorem b_L_law_2467 {x5 : Int} {y0 : Int} (hD : 18 ≤ D) (h : NW sc d_X12_hour 1 (0, [some (.inr (.inl (some 303)))], [], (J, L, W), 0, 0) (fun v M9 => NW sc d_L_law D (2471, [some (.inr (.inl (some 1000000))), some (.inr (.inl (some 0))), some (.inr (.inl (some 303))), some (.inr (.inl (some 314))), some (.inr (.inl (some 315))), some (.inl x5), none, none, none], nw_push v [.inl y0], M9, c, sl) Qr Qx) Qx) :
    NW sc d_L_law D (2467, [some (.inr (.inl (some 1000000))), some (.inr (.inl (some 0))), some (.inr (.inl (some 303))), some (.inr (.inl (some 314))), some (.inr (.inl (some 315))), some (.inl x5), none, none, none], [.inl y0], (J, L, W), c, sl) Qr Qx := by
  refine nw_aload_n l_L_law_2467 2468 rfl rfl ?_
  refine nw_call0 1 303 l_L_law_2468 rfl rfl g_X12_hour (Nat.lt_of_lt_of_le (by decide) hD) rfl (Or.inl ⟨_, rfl, k_303⟩) (ls' := [some (.inr (.inl (some 303)))]) rfl (st' := [.inl y0]) rfl 2471 rfl ?_
  exact h
theorem b_L_law_2481 {x5 : Int} {y0 : Int} (hD : 18 ≤ D) (h : NW sc d_X12_refusalReason 1 (0, [some (.inr (.inl (some 303)))], [], (J, L, W), 0, 0) (fun v M9 => NW sc d_L_law D (2487, [some (.inr (.inl (some 1000000))), some (.inr (.inl (some 0))), some (.inr (.inl (some 303))), some (.inr (.inl (some 314))), some (.inr (.inl (some 315))), some (.inl x5), some (.inl y0), none, none], nw_push v [], M9, c, sl) Qr Qx) Qx) :
    NW sc d_L_law D (2481, [some (.inr (.inl (some 1000000))), some (.inr (.inl (some 0))), some (.inr (.inl (some 303))), some (.inr (.inl (some 314))), some (.inr (.inl (some 315))), some (.inl x5), none, none, none], [.inl y0], (J, L, W), c, sl) Qr Qx := by
  refine nw_istore l_L_law_2481 2483 rfl rfl (ls' := [some (.inr (.inl (some 1000000))), some (.inr (.inl (some 0))), some (.inr (.inl (some 303))), some (.inr (.inl (some 314))), some (.inr (.inl (some 315))), some (.inl x5), some (.inl y0), none, none]) rfl ?_
  refine nw_aload_n l_L_law_2483 2484 rfl rfl ?_
  refine nw_call0 1 303 l_L_law_2484 rfl rfl g_X12_refusalReason (Nat.lt_of_lt_of_le (by decide) hD) rfl (Or.inl ⟨_, rfl, k_303⟩) (ls' := [some (.inr (.inl (some 303)))]) rfl (st' := []) rfl 2487 rfl ?_
  exact h
theorem b_L_law_2524 {x5 : Int} {y0 : Int} (hD : 18 ≤ D) (h : NW sc d_X12_passageCount 1 (0, [some (.inr (.inl (some 303)))], [], (J, L, W), 0, 0) (fun v M9 => NW sc d_L_law D (2528, [some (.inr (.inl (some 1000000))), some (.inr (.inl (some 0))), some (.inr (.inl (some 303))), some (.inr (.inl (some 314))), some (.inr (.inl (some 315))), some (.inl x5), none, none, none], nw_push v [.inl y0], M9, c, sl) Qr Qx) Qx) :
    NW sc d_L_law D (2524, [some (.inr (.inl (some 1000000))), some (.inr (.inl (some 0))), some (.inr (.inl (some 303))), some (.inr (.inl (some 314))), some (.inr (.inl (some 315))), some (.inl x5), none, none, none], [.inl y0], (J, L, W), c, sl) Qr Qx := by
  refine nw_aload_n l_L_law_2524 2525 rfl rfl ?_
  refine nw_call0 1 303 l_L_law_2525 rfl rfl g_X12_passageCount (Nat.lt_of_lt_of_le (by decide) hD) rfl (Or.inl ⟨_, rfl, k_303⟩) (ls' := [some (.inr (.inl (some 303)))]) rfl (st' := [.inl y0]) rfl 2528 rfl ?_
  exact h
theorem b_L_law_2544 {x5 : Int} {y0 : Int} (hD : 18 ≤ D) (h : ((-2147483648 ≤ x5 + 1 ∧ x5 + 1 < 2147483648) ∧ ((0 ≤ x5 + 1 ∧ x5 + 1 < (sc.1 : Int)) ∧ NW sc d_X12_passageFerry 2 (0, [some (.inr (.inl (some 303))), some (.inl (nw_sc sc (x5 + 1)))], [], (J, L, W), 0, 0) (fun v M9 => NW sc d_L_law D (2556, [some (.inr (.inl (some 1000000))), some (.inr (.inl (some 0))), some (.inr (.inl (some 303))), some (.inr (.inl (some 314))), some (.inr (.inl (some 315))), some (.inl x5), some (.inl y0), none, none], nw_push v [], M9, c, sl) Qr Qx) Qx))) :
    NW sc d_L_law D (2544, [some (.inr (.inl (some 1000000))), some (.inr (.inl (some 0))), some (.inr (.inl (some 303))), some (.inr (.inl (some 314))), some (.inr (.inl (some 315))), some (.inl x5), none, none, none], [.inl y0], (J, L, W), c, sl) Qr Qx := by
  refine nw_istore l_L_law_2544 2546 rfl rfl (ls' := [some (.inr (.inl (some 1000000))), some (.inr (.inl (some 0))), some (.inr (.inl (some 303))), some (.inr (.inl (some 314))), some (.inr (.inl (some 315))), some (.inl x5), some (.inl y0), none, none]) rfl ?_
  refine nw_aload_n l_L_law_2546 2547 rfl rfl ?_
  refine nw_aload_n l_L_law_2547 2548 rfl rfl ?_
  refine nw_iload l_L_law_2548 2550 rfl rfl ?_
  refine nw_iconst (len := 0) l_L_law_2550 2551 rfl c_1 ?_
  have o1 := h.1
  replace h := h.2
  refine nw_iadd l_L_law_2551 2552 rfl o1 ?_
  have o2 := h.1
  replace h := h.2
  refine nw_sald l_L_law_2552 2553 rfl o2 ?_
  refine nw_call0 2 303 l_L_law_2553 rfl rfl g_X12_passageFerry (Nat.lt_of_lt_of_le (by decide) hD) rfl (Or.inl ⟨_, rfl, k_303⟩) (ls' := [some (.inr (.inl (some 303))), some (.inl (nw_sc sc (x5 + 1)))]) rfl (st' := []) rfl 2556 rfl ?_
  exact h
theorem b_L_law_2600 {x5 : Int} {y0 : Int} (hD : 18 ≤ D) (h : ((-2147483648 ≤ x5 + 1 ∧ x5 + 1 < 2147483648) ∧ ((0 ≤ x5 + 1 ∧ x5 + 1 < (sc.1 : Int)) ∧ NW sc d_X12_passageCrater 2 (0, [some (.inr (.inl (some 303))), some (.inl (nw_sc sc (x5 + 1)))], [], (J, L, W), 0, 0) (fun v M9 => NW sc d_L_law D (2612, [some (.inr (.inl (some 1000000))), some (.inr (.inl (some 0))), some (.inr (.inl (some 303))), some (.inr (.inl (some 314))), some (.inr (.inl (some 315))), some (.inl x5), some (.inl y0), none, none], nw_push v [], M9, c, sl) Qr Qx) Qx))) :
    NW sc d_L_law D (2600, [some (.inr (.inl (some 1000000))), some (.inr (.inl (some 0))), some (.inr (.inl (some 303))), some (.inr (.inl (some 314))), some (.inr (.inl (some 315))), some (.inl x5), none, none, none], [.inl y0], (J, L, W), c, sl) Qr Qx := by
  refine nw_istore l_L_law_2600 2602 rfl rfl (ls' := [some (.inr (.inl (some 1000000))), some (.inr (.inl (some 0))), some (.inr (.inl (some 303))), some (.inr (.inl (some 314))), some (.inr (.inl (some 315))), some (.inl x5), some (.inl y0), none, none]) rfl ?_
  refine nw_aload_n l_L_law_2602 2603 rfl rfl ?_
  refine nw_aload_n l_L_law_2603 2604 rfl rfl ?_
  refine nw_iload l_L_law_2604 2606 rfl rfl ?_
  refine nw_iconst (len := 0) l_L_law_2606 2607 rfl c_1 ?_
  have o1 := h.1
  replace h := h.2
  refine nw_iadd l_L_law_2607 2608 rfl o1 ?_
  have o2 := h.1
  replace h := h.2
  refine nw_sald l_L_law_2608 2609 rfl o2 ?_
  refine nw_call0 2 303 l_L_law_2609 rfl rfl g_X12_passageCrater (Nat.lt_of_lt_of_le (by decide) hD) rfl (Or.inl ⟨_, rfl, k_303⟩) (ls' := [some (.inr (.inl (some 303))), some (.inl (nw_sc sc (x5 + 1)))]) rfl (st' := []) rfl 2612 rfl ?_
  exact h
theorem b_L_law_2656 {x5 : Int} {y0 : Int} (hD : 18 ≤ D) (h : ((-2147483648 ≤ x5 + 1 ∧ x5 + 1 < 2147483648) ∧ ((0 ≤ x5 + 1 ∧ x5 + 1 < (sc.1 : Int)) ∧ NW sc d_X12_passageHour 2 (0, [some (.inr (.inl (some 303))), some (.inl (nw_sc sc (x5 + 1)))], [], (J, L, W), 0, 0) (fun v M9 => NW sc d_L_law D (2668, [some (.inr (.inl (some 1000000))), some (.inr (.inl (some 0))), some (.inr (.inl (some 303))), some (.inr (.inl (some 314))), some (.inr (.inl (some 315))), some (.inl x5), some (.inl y0), none, none], nw_push v [], M9, c, sl) Qr Qx) Qx))) :
    NW sc d_L_law D (2656, [some (.inr (.inl (some 1000000))), some (.inr (.inl (some 0))), some (.inr (.inl (some 303))), some (.inr (.inl (some 314))), some (.inr (.inl (some 315))), some (.inl x5), none, none, none], [.inl y0], (J, L, W), c, sl) Qr Qx := by
  refine nw_istore l_L_law_2656 2658 rfl rfl (ls' := [some (.inr (.inl (some 1000000))), some (.inr (.inl (some 0))), some (.inr (.inl (some 303))), some (.inr (.inl (some 314))), some (.inr (.inl (some 315))), some (.inl x5), some (.inl y0), none, none]) rfl ?_
  refine nw_aload_n l_L_law_2658 2659 rfl rfl ?_
  refine nw_aload_n l_L_law_2659 2660 rfl rfl ?_
  refine nw_iload l_L_law_2660 2662 rfl rfl ?_
  refine nw_iconst (len := 0) l_L_law_2662 2663 rfl c_1 ?_
  have o1 := h.1
  replace h := h.2
  refine nw_iadd l_L_law_2663 2664 rfl o1 ?_
  have o2 := h.1
  replace h := h.2
  refine nw_sald l_L_law_2664 2665 rfl o2 ?_
  refine nw_call0 2 303 l_L_law_2665 rfl rfl g_X12_passageHour (Nat.lt_of_lt_of_le (by decide) hD) rfl (Or.inl ⟨_, rfl, k_303⟩) (ls' := [some (.inr (.inl (some 303))), some (.inl (nw_sc sc (x5 + 1)))]) rfl (st' := []) rfl 2668 rfl ?_
  exact h
theorem b_L_law_2705 {x5 : Int} {y0 : Int} (hD : 18 ≤ D) (h : NW sc d_X12_strandingCount 1 (0, [some (.inr (.inl (some 303)))], [], (J, L, W), 0, 0) (fun v M9 => NW sc d_L_law D (2709, [some (.inr (.inl (some 1000000))), some (.inr (.inl (some 0))), some (.inr (.inl (some 303))), some (.inr (.inl (some 314))), some (.inr (.inl (some 315))), some (.inl x5), none, none, none], nw_push v [.inl y0], M9, c, sl) Qr Qx) Qx) :
    NW sc d_L_law D (2705, [some (.inr (.inl (some 1000000))), some (.inr (.inl (some 0))), some (.inr (.inl (some 303))), some (.inr (.inl (some 314))), some (.inr (.inl (some 315))), some (.inl x5), none, none, none], [.inl y0], (J, L, W), c, sl) Qr Qx := by
  refine nw_aload_n l_L_law_2705 2706 rfl rfl ?_
  refine nw_call0 1 303 l_L_law_2706 rfl rfl g_X12_strandingCount (Nat.lt_of_lt_of_le (by decide) hD) rfl (Or.inl ⟨_, rfl, k_303⟩) (ls' := [some (.inr (.inl (some 303)))]) rfl (st' := [.inl y0]) rfl 2709 rfl ?_
  exact h
theorem b_L_law_2718 {x5 : Int} {y0 : Int} (hD : 18 ≤ D) (h : NW sc d_X12_coins 0 (0, [some (.inr (.inl (some 303)))], [], (J, L, W), 0, 0) (fun v M9 => NW sc d_L_law D (2722, [some (.inr (.inl (some 1000000))), some (.inr (.inl (some 0))), some (.inr (.inl (some 303))), some (.inr (.inl (some 314))), some (.inr (.inl (some 315))), some (.inl x5), none, none, none], nw_push v [.inr (.inr (.inl y0))], M9, c, sl) Qr Qx) Qx) :
    NW sc d_L_law D (2718, [some (.inr (.inl (some 1000000))), some (.inr (.inl (some 0))), some (.inr (.inl (some 303))), some (.inr (.inl (some 314))), some (.inr (.inl (some 315))), some (.inl x5), none, none, none], [.inr (.inr (.inl y0))], (J, L, W), c, sl) Qr Qx := by
  refine nw_aload_n l_L_law_2718 2719 rfl rfl ?_
  refine nw_call0 0 303 l_L_law_2719 rfl rfl g_X12_coins (Nat.lt_of_lt_of_le (by decide) hD) rfl (Or.inl ⟨_, rfl, k_303⟩) (ls' := [some (.inr (.inl (some 303)))]) rfl (st' := [.inr (.inr (.inl y0))]) rfl 2722 rfl ?_
  exact h
theorem b_L_law_2732 {x5 : Int} {y0 : Int} (hD : 18 ≤ D) (h : NW sc d_X12_fareTotal 1 (0, [some (.inr (.inl (some 303)))], [], (J, L, W), 0, 0) (fun v M9 => NW sc d_L_law D (2736, [some (.inr (.inl (some 1000000))), some (.inr (.inl (some 0))), some (.inr (.inl (some 303))), some (.inr (.inl (some 314))), some (.inr (.inl (some 315))), some (.inl x5), none, none, none], nw_push v [.inl y0], M9, c, sl) Qr Qx) Qx) :
    NW sc d_L_law D (2732, [some (.inr (.inl (some 1000000))), some (.inr (.inl (some 0))), some (.inr (.inl (some 303))), some (.inr (.inl (some 314))), some (.inr (.inl (some 315))), some (.inl x5), none, none, none], [.inl y0], (J, L, W), c, sl) Qr Qx := by
  refine nw_aload_n l_L_law_2732 2733 rfl rfl ?_
  refine nw_call0 1 303 l_L_law_2733 rfl rfl g_X12_fareTotal (Nat.lt_of_lt_of_le (by decide) hD) rfl (Or.inl ⟨_, rfl, k_303⟩) (ls' := [some (.inr (.inl (some 303)))]) rfl (st' := [.inl y0]) rfl 2736 rfl ?_
  exact h
theorem b_L_law_2753 {x5 : Int} {y0 : Int} (hD : 18 ≤ D) (h : ((-2147483648 ≤ x5 + 1 ∧ x5 + 1 < 2147483648) ∧ ((0 ≤ x5 + 1 ∧ x5 + 1 < (sc.1 : Int)) ∧ NW sc d_X12_append 1 (0, [some (.inr (.inl (some 303))), some (.inl ((nw_sc sc (x5 + 1)) % 65536))], [], (J, L, W), 0, 0) (fun v M9 => NW sc d_L_law D (2766, [some (.inr (.inl (some 1000000))), some (.inr (.inl (some 0))), some (.inr (.inl (some 303))), some (.inr (.inl (some 314))), some (.inr (.inl (some 315))), some (.inl x5), some (.inl y0), none, none], nw_push v [], M9, c, sl) Qr Qx) Qx))) :
    NW sc d_L_law D (2753, [some (.inr (.inl (some 1000000))), some (.inr (.inl (some 0))), some (.inr (.inl (some 303))), some (.inr (.inl (some 314))), some (.inr (.inl (some 315))), some (.inl x5), none, none, none], [.inl y0], (J, L, W), c, sl) Qr Qx := by
  refine nw_istore l_L_law_2753 2755 rfl rfl (ls' := [some (.inr (.inl (some 1000000))), some (.inr (.inl (some 0))), some (.inr (.inl (some 303))), some (.inr (.inl (some 314))), some (.inr (.inl (some 315))), some (.inl x5), some (.inl y0), none, none]) rfl ?_
  refine nw_aload_n l_L_law_2755 2756 rfl rfl ?_
  refine nw_aload_n l_L_law_2756 2757 rfl rfl ?_
  refine nw_iload l_L_law_2757 2759 rfl rfl ?_
  refine nw_iconst (len := 0) l_L_law_2759 2760 rfl c_1 ?_
  have o1 := h.1
  replace h := h.2
  refine nw_iadd l_L_law_2760 2761 rfl o1 ?_
  have o2 := h.1
  replace h := h.2
  refine nw_sald l_L_law_2761 2762 rfl o2 ?_
  refine nw_i2c l_L_law_2762 2763 rfl ?_
  refine nw_call0 1 303 l_L_law_2763 rfl rfl g_X12_append (Nat.lt_of_lt_of_le (by decide) hD) rfl (Or.inl ⟨_, rfl, k_303⟩) (ls' := [some (.inr (.inl (some 303))), some (.inl ((nw_sc sc (x5 + 1)) % 65536))]) rfl (st' := []) rfl 2766 rfl ?_
  exact h
theorem b_L_law_2804 {x5 : Int} {y0 : Int} (hD : 18 ≤ D) (h : NW sc d_X12_run 6 (0, [some (.inr (.inl (some 303))), none, none, none, none], [], (J, L, W), 0, 0) (fun v M9 => NW sc d_L_law D (2810, [some (.inr (.inl (some 1000000))), some (.inr (.inl (some 0))), some (.inr (.inl (some 303))), some (.inr (.inl (some 314))), some (.inr (.inl (some 315))), some (.inl x5), some (.inl y0), none, none], nw_push v [], M9, c, sl) Qr Qx) Qx) :
    NW sc d_L_law D (2804, [some (.inr (.inl (some 1000000))), some (.inr (.inl (some 0))), some (.inr (.inl (some 303))), some (.inr (.inl (some 314))), some (.inr (.inl (some 315))), some (.inl x5), none, none, none], [.inl y0], (J, L, W), c, sl) Qr Qx := by
  refine nw_istore l_L_law_2804 2806 rfl rfl (ls' := [some (.inr (.inl (some 1000000))), some (.inr (.inl (some 0))), some (.inr (.inl (some 303))), some (.inr (.inl (some 314))), some (.inr (.inl (some 315))), some (.inl x5), some (.inl y0), none, none]) rfl ?_
  refine nw_aload_n l_L_law_2806 2807 rfl rfl ?_
  refine nw_call0 6 303 l_L_law_2807 rfl rfl g_X12_run (Nat.lt_of_lt_of_le (by decide) hD) rfl (Or.inl ⟨_, rfl, k_303⟩) (ls' := [some (.inr (.inl (some 303))), none, none, none, none]) rfl (st' := []) rfl 2810 rfl ?_
  exact h
theorem b_L_law_2848 {x5 : Int} {y0 : Int} (hD : 18 ≤ D) (h : NW sc d_X12_errorPosition 1 (0, [some (.inr (.inl (some 303)))], [], (J, L, W), 0, 0) (fun v M9 => NW sc d_L_law D (2854, [some (.inr (.inl (some 1000000))), some (.inr (.inl (some 0))), some (.inr (.inl (some 303))), some (.inr (.inl (some 314))), some (.inr (.inl (some 315))), some (.inl x5), some (.inl y0), none, none], nw_push v [], M9, c, sl) Qr Qx) Qx) :
    NW sc d_L_law D (2848, [some (.inr (.inl (some 1000000))), some (.inr (.inl (some 0))), some (.inr (.inl (some 303))), some (.inr (.inl (some 314))), some (.inr (.inl (some 315))), some (.inl x5), none, none, none], [.inl y0], (J, L, W), c, sl) Qr Qx := by
  refine nw_istore l_L_law_2848 2850 rfl rfl (ls' := [some (.inr (.inl (some 1000000))), some (.inr (.inl (some 0))), some (.inr (.inl (some 303))), some (.inr (.inl (some 314))), some (.inr (.inl (some 315))), some (.inl x5), some (.inl y0), none, none]) rfl ?_
  refine nw_aload_n l_L_law_2850 2851 rfl rfl ?_
  refine nw_call0 1 303 l_L_law_2851 rfl rfl g_X12_errorPosition (Nat.lt_of_lt_of_le (by decide) hD) rfl (Or.inl ⟨_, rfl, k_303⟩) (ls' := [some (.inr (.inl (some 303)))]) rfl (st' := []) rfl 2854 rfl ?_
  exact h
theorem b_L_law_2892 {x5 : Int} {y0 : Int} (hD : 18 ≤ D) (h : NW sc d_X12_failedCommand 1 (0, [some (.inr (.inl (some 303)))], [], (J, L, W), 0, 0) (fun v M9 => NW sc d_L_law D (2898, [some (.inr (.inl (some 1000000))), some (.inr (.inl (some 0))), some (.inr (.inl (some 303))), some (.inr (.inl (some 314))), some (.inr (.inl (some 315))), some (.inl x5), some (.inl y0), none, none], nw_push v [], M9, c, sl) Qr Qx) Qx) :
    NW sc d_L_law D (2892, [some (.inr (.inl (some 1000000))), some (.inr (.inl (some 0))), some (.inr (.inl (some 303))), some (.inr (.inl (some 314))), some (.inr (.inl (some 315))), some (.inl x5), none, none, none], [.inl y0], (J, L, W), c, sl) Qr Qx := by
  refine nw_istore l_L_law_2892 2894 rfl rfl (ls' := [some (.inr (.inl (some 1000000))), some (.inr (.inl (some 0))), some (.inr (.inl (some 303))), some (.inr (.inl (some 314))), some (.inr (.inl (some 315))), some (.inl x5), some (.inl y0), none, none]) rfl ?_
  refine nw_aload_n l_L_law_2894 2895 rfl rfl ?_
  refine nw_call0 1 303 l_L_law_2895 rfl rfl g_X12_failedCommand (Nat.lt_of_lt_of_le (by decide) hD) rfl (Or.inl ⟨_, rfl, k_303⟩) (ls' := [some (.inr (.inl (some 303)))]) rfl (st' := []) rfl 2898 rfl ?_
  exact h
theorem b_L_law_2942 {x5 : Int} {y0 : Int} (hD : 18 ≤ D) (h : ((-2147483648 ≤ x5 + 1 ∧ x5 + 1 < 2147483648) ∧ ((0 ≤ x5 + 1 ∧ x5 + 1 < (sc.1 : Int)) ∧ NW sc d_X12_describeFerry 3 (0, [some (.inr (.inl (some 303))), some (.inl (nw_sc sc (x5 + 1))), none], [], (J, L, W), 0, 0) (fun v M9 => NW sc d_L_law D (2954, [some (.inr (.inl (some 1000000))), some (.inr (.inl (some 0))), some (.inr (.inl (some 303))), some (.inr (.inl (some 314))), some (.inr (.inl (some 315))), some (.inl x5), some (.inl y0), none, none], nw_push v [], M9, c, sl) Qr Qx) Qx))) :
    NW sc d_L_law D (2942, [some (.inr (.inl (some 1000000))), some (.inr (.inl (some 0))), some (.inr (.inl (some 303))), some (.inr (.inl (some 314))), some (.inr (.inl (some 315))), some (.inl x5), none, none, none], [.inl y0], (J, L, W), c, sl) Qr Qx := by
  refine nw_istore l_L_law_2942 2944 rfl rfl (ls' := [some (.inr (.inl (some 1000000))), some (.inr (.inl (some 0))), some (.inr (.inl (some 303))), some (.inr (.inl (some 314))), some (.inr (.inl (some 315))), some (.inl x5), some (.inl y0), none, none]) rfl ?_
  refine nw_aload_n l_L_law_2944 2945 rfl rfl ?_
  refine nw_aload_n l_L_law_2945 2946 rfl rfl ?_
  refine nw_iload l_L_law_2946 2948 rfl rfl ?_
  refine nw_iconst (len := 0) l_L_law_2948 2949 rfl c_1 ?_
  have o1 := h.1
  replace h := h.2
  refine nw_iadd l_L_law_2949 2950 rfl o1 ?_
  have o2 := h.1
  replace h := h.2
  refine nw_sald l_L_law_2950 2951 rfl o2 ?_
  refine nw_call0 3 303 l_L_law_2951 rfl rfl g_X12_describeFerry (Nat.lt_of_lt_of_le (by decide) hD) rfl (Or.inl ⟨_, rfl, k_303⟩) (ls' := [some (.inr (.inl (some 303))), some (.inl (nw_sc sc (x5 + 1))), none]) rfl (st' := []) rfl 2954 rfl ?_
  exact h
theorem b_L_law_2998 {x5 : Int} {y0 : Int} (hD : 18 ≤ D) (h : ((-2147483648 ≤ x5 + 1 ∧ x5 + 1 < 2147483648) ∧ ((0 ≤ x5 + 1 ∧ x5 + 1 < (sc.1 : Int)) ∧ NW sc d_X12_lineAt 1 (0, [some (.inr (.inl (some 303))), some (.inl (nw_sc sc (x5 + 1)))], [], (J, L, W), 0, 0) (fun v M9 => NW sc d_L_law D (3010, [some (.inr (.inl (some 1000000))), some (.inr (.inl (some 0))), some (.inr (.inl (some 303))), some (.inr (.inl (some 314))), some (.inr (.inl (some 315))), some (.inl x5), some (.inl y0), none, none], nw_push v [], M9, c, sl) Qr Qx) Qx))) :
    NW sc d_L_law D (2998, [some (.inr (.inl (some 1000000))), some (.inr (.inl (some 0))), some (.inr (.inl (some 303))), some (.inr (.inl (some 314))), some (.inr (.inl (some 315))), some (.inl x5), none, none, none], [.inl y0], (J, L, W), c, sl) Qr Qx := by
  refine nw_istore l_L_law_2998 3000 rfl rfl (ls' := [some (.inr (.inl (some 1000000))), some (.inr (.inl (some 0))), some (.inr (.inl (some 303))), some (.inr (.inl (some 314))), some (.inr (.inl (some 315))), some (.inl x5), some (.inl y0), none, none]) rfl ?_
  refine nw_aload_n l_L_law_3000 3001 rfl rfl ?_
  refine nw_aload_n l_L_law_3001 3002 rfl rfl ?_
  refine nw_iload l_L_law_3002 3004 rfl rfl ?_
  refine nw_iconst (len := 0) l_L_law_3004 3005 rfl c_1 ?_
  have o1 := h.1
  replace h := h.2
  refine nw_iadd l_L_law_3005 3006 rfl o1 ?_
  have o2 := h.1
  replace h := h.2
  refine nw_sald l_L_law_3006 3007 rfl o2 ?_
  refine nw_call0 1 303 l_L_law_3007 rfl rfl g_X12_lineAt (Nat.lt_of_lt_of_le (by decide) hD) rfl (Or.inl ⟨_, rfl, k_303⟩) (ls' := [some (.inr (.inl (some 303))), some (.inl (nw_sc sc (x5 + 1)))]) rfl (st' := []) rfl 3010 rfl ?_
  exact h
theorem b_L_law_3049 {x5 : Int} {y0 : Int} (hD : 18 ≤ D) (h : NW sc d_X12_meanPhase 0 (0, [some (.inr (.inl (some 303))), none, none], [], (J, L, W), 0, 0) (fun v M9 => NW sc d_L_law D (3055, [some (.inr (.inl (some 1000000))), some (.inr (.inl (some 0))), some (.inr (.inl (some 303))), some (.inr (.inl (some 314))), some (.inr (.inl (some 315))), some (.inl x5), some (.inl y0), none, none], nw_push v [], M9, c, sl) Qr Qx) Qx) :
    NW sc d_L_law D (3049, [some (.inr (.inl (some 1000000))), some (.inr (.inl (some 0))), some (.inr (.inl (some 303))), some (.inr (.inl (some 314))), some (.inr (.inl (some 315))), some (.inl x5), none, none, none], [.inl y0], (J, L, W), c, sl) Qr Qx := by
  refine nw_istore l_L_law_3049 3051 rfl rfl (ls' := [some (.inr (.inl (some 1000000))), some (.inr (.inl (some 0))), some (.inr (.inl (some 303))), some (.inr (.inl (some 314))), some (.inr (.inl (some 315))), some (.inl x5), some (.inl y0), none, none]) rfl ?_
  refine nw_aload_n l_L_law_3051 3052 rfl rfl ?_
  refine nw_call0 0 303 l_L_law_3052 rfl rfl g_X12_meanPhase (Nat.lt_of_lt_of_le (by decide) hD) rfl (Or.inl ⟨_, rfl, k_303⟩) (ls' := [some (.inr (.inl (some 303))), none, none]) rfl (st' := []) rfl 3055 rfl ?_
  exact h
theorem b_L_law_3120 {x5 : Int} {y0 : Int} (hD : 18 ≤ D) (h : ((-2147483648 ≤ x5 + 1 ∧ x5 + 1 < 2147483648) ∧ ((0 ≤ x5 + 1 ∧ x5 + 1 < (sc.1 : Int)) ∧ NW sc d_X12_loadShare 2 (0, [some (.inr (.inl (some 303))), some (.inl (nw_sc sc (x5 + 1)))], [], (J, L, W), 0, 0) (fun v M9 => NW sc d_L_law D (3132, [some (.inr (.inl (some 1000000))), some (.inr (.inl (some 0))), some (.inr (.inl (some 303))), some (.inr (.inl (some 314))), some (.inr (.inl (some 315))), some (.inl x5), some (.inl y0), none, none], nw_push v [], M9, c, sl) Qr Qx) Qx))) :
    NW sc d_L_law D (3120, [some (.inr (.inl (some 1000000))), some (.inr (.inl (some 0))), some (.inr (.inl (some 303))), some (.inr (.inl (some 314))), some (.inr (.inl (some 315))), some (.inl x5), none, none, none], [.inl y0], (J, L, W), c, sl) Qr Qx := by
  refine nw_istore l_L_law_3120 3122 rfl rfl (ls' := [some (.inr (.inl (some 1000000))), some (.inr (.inl (some 0))), some (.inr (.inl (some 303))), some (.inr (.inl (some 314))), some (.inr (.inl (some 315))), some (.inl x5), some (.inl y0), none, none]) rfl ?_
  refine nw_aload_n l_L_law_3122 3123 rfl rfl ?_
  refine nw_aload_n l_L_law_3123 3124 rfl rfl ?_
  refine nw_iload l_L_law_3124 3126 rfl rfl ?_
  refine nw_iconst (len := 0) l_L_law_3126 3127 rfl c_1 ?_
  have o1 := h.1
  replace h := h.2
  refine nw_iadd l_L_law_3127 3128 rfl o1 ?_
  have o2 := h.1
  replace h := h.2
  refine nw_sald l_L_law_3128 3129 rfl o2 ?_
  refine nw_call0 2 303 l_L_law_3129 rfl rfl g_X12_loadShare (Nat.lt_of_lt_of_le (by decide) hD) rfl (Or.inl ⟨_, rfl, k_303⟩) (ls' := [some (.inr (.inl (some 303))), some (.inl (nw_sc sc (x5 + 1)))]) rfl (st' := []) rfl 3132 rfl ?_
  exact h
theorem b_L_law_3190 {x5 : Int} {y0 : Int} (hD : 18 ≤ D) (h : NW sc d_X12_isConsistent 0 (0, [some (.inr (.inl (some 303)))], [], (J, L, W), 0, 0) (fun v M9 => NW sc d_L_law D (3194, [some (.inr (.inl (some 1000000))), some (.inr (.inl (some 0))), some (.inr (.inl (some 303))), some (.inr (.inl (some 314))), some (.inr (.inl (some 315))), some (.inl x5), none, none, none], nw_push v [.inl y0], M9, c, sl) Qr Qx) Qx) :
    NW sc d_L_law D (3190, [some (.inr (.inl (some 1000000))), some (.inr (.inl (some 0))), some (.inr (.inl (some 303))), some (.inr (.inl (some 314))), some (.inr (.inl (some 315))), some (.inl x5), none, none, none], [.inl y0], (J, L, W), c, sl) Qr Qx := by
  refine nw_aload_n l_L_law_3190 3191 rfl rfl ?_
  refine nw_call0 0 303 l_L_law_3191 rfl rfl g_X12_isConsistent (Nat.lt_of_lt_of_le (by decide) hD) rfl (Or.inl ⟨_, rfl, k_303⟩) (ls' := [some (.inr (.inl (some 303)))]) rfl (st' := [.inl y0]) rfl 3194 rfl ?_
  exact h
theorem b_L_law_3204 {x5 : Int} {y0 : Int} (hD : 18 ≤ D) (h : NW sc d_X12_undo 1 (0, [some (.inr (.inl (some 303)))], [], (J, L, W), 0, 0) (fun v M9 => NW sc d_L_law D (3210, [some (.inr (.inl (some 1000000))), some (.inr (.inl (some 0))), some (.inr (.inl (some 303))), some (.inr (.inl (some 314))), some (.inr (.inl (some 315))), some (.inl x5), some (.inl y0), none, none], nw_push v [], M9, c, sl) Qr Qx) Qx) :
    NW sc d_L_law D (3204, [some (.inr (.inl (some 1000000))), some (.inr (.inl (some 0))), some (.inr (.inl (some 303))), some (.inr (.inl (some 314))), some (.inr (.inl (some 315))), some (.inl x5), none, none, none], [.inl y0], (J, L, W), c, sl) Qr Qx := by
  refine nw_istore l_L_law_3204 3206 rfl rfl (ls' := [some (.inr (.inl (some 1000000))), some (.inr (.inl (some 0))), some (.inr (.inl (some 303))), some (.inr (.inl (some 314))), some (.inr (.inl (some 315))), some (.inl x5), some (.inl y0), none, none]) rfl ?_
  refine nw_aload_n l_L_law_3206 3207 rfl rfl ?_
  refine nw_call0 1 303 l_L_law_3207 rfl rfl g_X12_undo (Nat.lt_of_lt_of_le (by decide) hD) rfl (Or.inl ⟨_, rfl, k_303⟩) (ls' := [some (.inr (.inl (some 303)))]) rfl (st' := []) rfl 3210 rfl ?_
  exact h
theorem b_L_law_3247 {x5 : Int} {y0 : Int} (hD : 18 ≤ D) (h : NW sc d_X12_save 1 (0, [some (.inr (.inl (some 303)))], [], (J, L, W), 0, 0) (fun v M9 => NW sc d_L_law D (3251, [some (.inr (.inl (some 1000000))), some (.inr (.inl (some 0))), some (.inr (.inl (some 303))), some (.inr (.inl (some 314))), some (.inr (.inl (some 315))), some (.inl x5), none, none, none], nw_push v [.inl y0], M9, c, sl) Qr Qx) Qx) :
    NW sc d_L_law D (3247, [some (.inr (.inl (some 1000000))), some (.inr (.inl (some 0))), some (.inr (.inl (some 303))), some (.inr (.inl (some 314))), some (.inr (.inl (some 315))), some (.inl x5), none, none, none], [.inl y0], (J, L, W), c, sl) Qr Qx := by
  refine nw_aload_n l_L_law_3247 3248 rfl rfl ?_
  refine nw_call0 1 303 l_L_law_3248 rfl rfl g_X12_save (Nat.lt_of_lt_of_le (by decide) hD) rfl (Or.inl ⟨_, rfl, k_303⟩) (ls' := [some (.inr (.inl (some 303)))]) rfl (st' := [.inl y0]) rfl 3251 rfl ?_
  exact h
theorem b_L_law_3261 {x5 : Int} {y0 : Int} (hD : 18 ≤ D) (h : NW sc d_X12_restore 1 (0, [some (.inr (.inl (some 303)))], [], (J, L, W), 0, 0) (fun v M9 => NW sc d_L_law D (3267, [some (.inr (.inl (some 1000000))), some (.inr (.inl (some 0))), some (.inr (.inl (some 303))), some (.inr (.inl (some 314))), some (.inr (.inl (some 315))), some (.inl x5), some (.inl y0), none, none], nw_push v [], M9, c, sl) Qr Qx) Qx) :
    NW sc d_L_law D (3261, [some (.inr (.inl (some 1000000))), some (.inr (.inl (some 0))), some (.inr (.inl (some 303))), some (.inr (.inl (some 314))), some (.inr (.inl (some 315))), some (.inl x5), none, none, none], [.inl y0], (J, L, W), c, sl) Qr Qx := by
  refine nw_istore l_L_law_3261 3263 rfl rfl (ls' := [some (.inr (.inl (some 1000000))), some (.inr (.inl (some 0))), some (.inr (.inl (some 303))), some (.inr (.inl (some 314))), some (.inr (.inl (some 315))), some (.inl x5), some (.inl y0), none, none]) rfl ?_
  refine nw_aload_n l_L_law_3263 3264 rfl rfl ?_
  refine nw_call0 1 303 l_L_law_3264 rfl rfl g_X12_restore (Nat.lt_of_lt_of_le (by decide) hD) rfl (Or.inl ⟨_, rfl, k_303⟩) (ls' := [some (.inr (.inl (some 303)))]) rfl (st' := []) rfl 3267 rfl ?_
  exact h
theorem b_L_law_323 {x5 : Int} {x6 : Int} {y0 : Int} (hD : 18 ≤ D) (h : ((J 303 13 = x6 → ((¬ x6 = 0 → NW sc d_L_law D (3300, [some (.inr (.inl (some 1000000))), some (.inr (.inl (some 0))), some (.inr (.inl (some 303))), some (.inr (.inl (some 314))), some (.inr (.inl (some 315))), some (.inl x5), none, none, none], [], (J, L, W), c, sl) Qr Qx) ∧ (x6 = 0 → ((nw_cmp3 (L 314 0) y0 = 0 → NW sc d_L_law D (3300, [some (.inr (.inl (some 1000000))), some (.inr (.inl (some 0))), some (.inr (.inl (some 303))), some (.inr (.inl (some 314))), some (.inr (.inl (some 315))), some (.inl x5), none, none, none], [], (J, L, W), c, sl) Qr Qx) ∧ (¬ nw_cmp3 (L 314 0) y0 = 0 → Qr (some (.inl 0)) (J, L, W)))))) ∧ (¬ J 303 13 = x6 → Qr (some (.inl 0)) (J, L, W)))) :
    NW sc d_L_law D (323, [some (.inr (.inl (some 1000000))), some (.inr (.inl (some 0))), some (.inr (.inl (some 303))), some (.inr (.inl (some 314))), some (.inr (.inl (some 315))), some (.inl x5), some (.inl x6), none, none], [.inl y0], (J, L, W), c, sl) Qr Qx := by
  refine nw_istore l_L_law_323 325 rfl rfl (ls' := [some (.inr (.inl (some 1000000))), some (.inr (.inl (some 0))), some (.inr (.inl (some 303))), some (.inr (.inl (some 314))), some (.inr (.inl (some 315))), some (.inl x5), some (.inl x6), some (.inl y0), none]) rfl ?_
  refine nw_aload_n l_L_law_325 326 rfl rfl ?_
  refine nw_call0 0 303 l_L_law_326 rfl rfl g_X12_thrown (Nat.lt_of_lt_of_le (by decide) hD) rfl (Or.inl ⟨_, rfl, k_303⟩) (ls' := [some (.inr (.inl (some 303)))]) rfl (st' := []) rfl 329 rfl ?_
  refine nw_aload_n l_X12_thrown_0 1 rfl rfl ?_
  refine nw_getI l_X12_thrown_1 4 rfl k_303 (v := J 303 13) rfl ?_
  refine nw_ireturn l_X12_thrown_4 rfl ?_
  refine nw_iload l_L_law_329 331 rfl rfl ?_
  refine nw_ic_eq l_L_law_331 334 rfl (fun q1 => ?_) (fun q1 => ?_)
  · replace h := h.1 q1
    refine nw_iload l_L_law_336 338 rfl rfl ?_
    refine nw_if_ne l_L_law_338 341 rfl (fun q2 => ?_) (fun q2 => ?_)
    · replace h := h.1 q2
      refine nw_goto l_L_law_353 ?_
      refine nw_drop (ls' := [some (.inr (.inl (some 1000000))), some (.inr (.inl (some 0))), some (.inr (.inl (some 303))), some (.inr (.inl (some 314))), some (.inr (.inl (some 315))), some (.inl x5), none, none, none]) ⟨rfl, ⟨rfl, ⟨rfl, ⟨rfl, ⟨rfl, ⟨rfl, ⟨True.intro, ⟨True.intro, ⟨True.intro, True.intro⟩⟩⟩⟩⟩⟩⟩⟩⟩ ?_
      exact h
    · replace h := h.2 q2
      refine nw_aload_n l_L_law_341 342 rfl rfl ?_
      refine nw_iconst (len := 0) l_L_law_342 343 rfl c_0 ?_
      refine nw_lald l_L_law_343 344 rfl k_314 ⟨by decide, by decide⟩ (v := L 314 0) rfl ?_
      refine nw_iload l_L_law_344 346 rfl rfl ?_
      refine nw_i2l l_L_law_346 347 rfl ?_
      refine nw_lcmp l_L_law_347 348 rfl ?_
      refine nw_if_eq l_L_law_348 351 rfl (fun q3 => ?_) (fun q3 => ?_)
      · replace h := h.1 q3
        refine nw_goto l_L_law_353 ?_
        refine nw_drop (ls' := [some (.inr (.inl (some 1000000))), some (.inr (.inl (some 0))), some (.inr (.inl (some 303))), some (.inr (.inl (some 314))), some (.inr (.inl (some 315))), some (.inl x5), none, none, none]) ⟨rfl, ⟨rfl, ⟨rfl, ⟨rfl, ⟨rfl, ⟨rfl, ⟨True.intro, ⟨True.intro, ⟨True.intro, True.intro⟩⟩⟩⟩⟩⟩⟩⟩⟩ ?_
        exact h
      · replace h := h.2 q3
        refine nw_iconst (len := 0) l_L_law_351 352 rfl c_0 ?_
        refine nw_ireturnZ l_L_law_352 rfl (Or.inl rfl) ?_
        exact h
  · replace h := h.2 q1
    refine nw_iconst (len := 0) l_L_law_334 335 rfl c_0 ?_
    refine nw_ireturnZ l_L_law_335 rfl (Or.inl rfl) ?_
    exact h
theorem b_L_law_415 {x5 : Int} {x6 : Int} {y0 : Int} (hD : 18 ≤ D) (h : ((J 303 13 = x6 → ((¬ x6 = 0 → NW sc d_L_law D (3300, [some (.inr (.inl (some 1000000))), some (.inr (.inl (some 0))), some (.inr (.inl (some 303))), some (.inr (.inl (some 314))), some (.inr (.inl (some 315))), some (.inl x5), none, none, none], [], (J, L, W), c, sl) Qr Qx) ∧ (x6 = 0 → ((nw_cmp3 (L 314 0) y0 = 0 → NW sc d_L_law D (3300, [some (.inr (.inl (some 1000000))), some (.inr (.inl (some 0))), some (.inr (.inl (some 303))), some (.inr (.inl (some 314))), some (.inr (.inl (some 315))), some (.inl x5), none, none, none], [], (J, L, W), c, sl) Qr Qx) ∧ (¬ nw_cmp3 (L 314 0) y0 = 0 → Qr (some (.inl 0)) (J, L, W)))))) ∧ (¬ J 303 13 = x6 → Qr (some (.inl 0)) (J, L, W)))) :
    NW sc d_L_law D (415, [some (.inr (.inl (some 1000000))), some (.inr (.inl (some 0))), some (.inr (.inl (some 303))), some (.inr (.inl (some 314))), some (.inr (.inl (some 315))), some (.inl x5), some (.inl x6), none, none], [.inl y0], (J, L, W), c, sl) Qr Qx := by
  refine nw_istore l_L_law_415 417 rfl rfl (ls' := [some (.inr (.inl (some 1000000))), some (.inr (.inl (some 0))), some (.inr (.inl (some 303))), some (.inr (.inl (some 314))), some (.inr (.inl (some 315))), some (.inl x5), some (.inl x6), some (.inl y0), none]) rfl ?_
  refine nw_aload_n l_L_law_417 418 rfl rfl ?_
  refine nw_call0 0 303 l_L_law_418 rfl rfl g_X12_thrown (Nat.lt_of_lt_of_le (by decide) hD) rfl (Or.inl ⟨_, rfl, k_303⟩) (ls' := [some (.inr (.inl (some 303)))]) rfl (st' := []) rfl 421 rfl ?_
  refine nw_aload_n l_X12_thrown_0 1 rfl rfl ?_
  refine nw_getI l_X12_thrown_1 4 rfl k_303 (v := J 303 13) rfl ?_
  refine nw_ireturn l_X12_thrown_4 rfl ?_
  refine nw_iload l_L_law_421 423 rfl rfl ?_
  refine nw_ic_eq l_L_law_423 426 rfl (fun q1 => ?_) (fun q1 => ?_)
  · replace h := h.1 q1
    refine nw_iload l_L_law_428 430 rfl rfl ?_
    refine nw_if_ne l_L_law_430 433 rfl (fun q2 => ?_) (fun q2 => ?_)
    · replace h := h.1 q2
      refine nw_goto l_L_law_445 ?_
      refine nw_drop (ls' := [some (.inr (.inl (some 1000000))), some (.inr (.inl (some 0))), some (.inr (.inl (some 303))), some (.inr (.inl (some 314))), some (.inr (.inl (some 315))), some (.inl x5), none, none, none]) ⟨rfl, ⟨rfl, ⟨rfl, ⟨rfl, ⟨rfl, ⟨rfl, ⟨True.intro, ⟨True.intro, ⟨True.intro, True.intro⟩⟩⟩⟩⟩⟩⟩⟩⟩ ?_
      exact h
    · replace h := h.2 q2
      refine nw_aload_n l_L_law_433 434 rfl rfl ?_
      refine nw_iconst (len := 0) l_L_law_434 435 rfl c_0 ?_
      refine nw_lald l_L_law_435 436 rfl k_314 ⟨by decide, by decide⟩ (v := L 314 0) rfl ?_
      refine nw_iload l_L_law_436 438 rfl rfl ?_
      refine nw_i2l l_L_law_438 439 rfl ?_
      refine nw_lcmp l_L_law_439 440 rfl ?_
      refine nw_if_eq l_L_law_440 443 rfl (fun q3 => ?_) (fun q3 => ?_)
      · replace h := h.1 q3
        refine nw_goto l_L_law_445 ?_
        refine nw_drop (ls' := [some (.inr (.inl (some 1000000))), some (.inr (.inl (some 0))), some (.inr (.inl (some 303))), some (.inr (.inl (some 314))), some (.inr (.inl (some 315))), some (.inl x5), none, none, none]) ⟨rfl, ⟨rfl, ⟨rfl, ⟨rfl, ⟨rfl, ⟨rfl, ⟨True.intro, ⟨True.intro, ⟨True.intro, True.intro⟩⟩⟩⟩⟩⟩⟩⟩⟩ ?_
        exact h
      · replace h := h.2 q3
        refine nw_iconst (len := 0) l_L_law_443 444 rfl c_0 ?_
        refine nw_ireturnZ l_L_law_444 rfl (Or.inl rfl) ?_
        exact h
  · replace h := h.2 q1
    refine nw_iconst (len := 0) l_L_law_426 427 rfl c_0 ?_
    refine nw_ireturnZ l_L_law_427 rfl (Or.inl rfl) ?_
    exact h
theorem b_L_law_471 {x5 : Int} {x6 : Int} {y0 : Int} (hD : 18 ≤ D) (h : ((J 303 13 = x6 → ((¬ x6 = 0 → NW sc d_L_law D (3300, [some (.inr (.inl (some 1000000))), some (.inr (.inl (some 0))), some (.inr (.inl (some 303))), some (.inr (.inl (some 314))), some (.inr (.inl (some 315))), some (.inl x5), none, none, none], [], (J, L, W), c, sl) Qr Qx) ∧ (x6 = 0 → ((nw_cmp3 (L 314 0) y0 = 0 → NW sc d_L_law D (3300, [some (.inr (.inl (some 1000000))), some (.inr (.inl (some 0))), some (.inr (.inl (some 303))), some (.inr (.inl (some 314))), some (.inr (.inl (some 315))), some (.inl x5), none, none, none], [], (J, L, W), c, sl) Qr Qx) ∧ (¬ nw_cmp3 (L 314 0) y0 = 0 → Qr (some (.inl 0)) (J, L, W)))))) ∧ (¬ J 303 13 = x6 → Qr (some (.inl 0)) (J, L, W)))) :
    NW sc d_L_law D (471, [some (.inr (.inl (some 1000000))), some (.inr (.inl (some 0))), some (.inr (.inl (some 303))), some (.inr (.inl (some 314))), some (.inr (.inl (some 315))), some (.inl x5), some (.inl x6), none, none], [.inl y0], (J, L, W), c, sl) Qr Qx := by
  refine nw_istore l_L_law_471 473 rfl rfl (ls' := [some (.inr (.inl (some 1000000))), some (.inr (.inl (some 0))), some (.inr (.inl (some 303))), some (.inr (.inl (some 314))), some (.inr (.inl (some 315))), some (.inl x5), some (.inl x6), some (.inl y0), none]) rfl ?_
  refine nw_aload_n l_L_law_473 474 rfl rfl ?_
  refine nw_call0 0 303 l_L_law_474 rfl rfl g_X12_thrown (Nat.lt_of_lt_of_le (by decide) hD) rfl (Or.inl ⟨_, rfl, k_303⟩) (ls' := [some (.inr (.inl (some 303)))]) rfl (st' := []) rfl 477 rfl ?_
  refine nw_aload_n l_X12_thrown_0 1 rfl rfl ?_
  refine nw_getI l_X12_thrown_1 4 rfl k_303 (v := J 303 13) rfl ?_
  refine nw_ireturn l_X12_thrown_4 rfl ?_
  refine nw_iload l_L_law_477 479 rfl rfl ?_
  refine nw_ic_eq l_L_law_479 482 rfl (fun q1 => ?_) (fun q1 => ?_)
  · replace h := h.1 q1
    refine nw_iload l_L_law_484 486 rfl rfl ?_
    refine nw_if_ne l_L_law_486 489 rfl (fun q2 => ?_) (fun q2 => ?_)
    · replace h := h.1 q2
      refine nw_goto l_L_law_501 ?_
      refine nw_drop (ls' := [some (.inr (.inl (some 1000000))), some (.inr (.inl (some 0))), some (.inr (.inl (some 303))), some (.inr (.inl (some 314))), some (.inr (.inl (some 315))), some (.inl x5), none, none, none]) ⟨rfl, ⟨rfl, ⟨rfl, ⟨rfl, ⟨rfl, ⟨rfl, ⟨True.intro, ⟨True.intro, ⟨True.intro, True.intro⟩⟩⟩⟩⟩⟩⟩⟩⟩ ?_
      exact h
    · replace h := h.2 q2
      refine nw_aload_n l_L_law_489 490 rfl rfl ?_
      refine nw_iconst (len := 0) l_L_law_490 491 rfl c_0 ?_
      refine nw_lald l_L_law_491 492 rfl k_314 ⟨by decide, by decide⟩ (v := L 314 0) rfl ?_
      refine nw_iload l_L_law_492 494 rfl rfl ?_
      refine nw_i2l l_L_law_494 495 rfl ?_
      refine nw_lcmp l_L_law_495 496 rfl ?_
      refine nw_if_eq l_L_law_496 499 rfl (fun q3 => ?_) (fun q3 => ?_)
      · replace h := h.1 q3
        refine nw_goto l_L_law_501 ?_
        refine nw_drop (ls' := [some (.inr (.inl (some 1000000))), some (.inr (.inl (some 0))), some (.inr (.inl (some 303))), some (.inr (.inl (some 314))), some (.inr (.inl (some 315))), some (.inl x5), none, none, none]) ⟨rfl, ⟨rfl, ⟨rfl, ⟨rfl, ⟨rfl, ⟨rfl, ⟨True.intro, ⟨True.intro, ⟨True.intro, True.intro⟩⟩⟩⟩⟩⟩⟩⟩⟩ ?_
        exact h
      · replace h := h.2 q3
        refine nw_iconst (len := 0) l_L_law_499 500 rfl c_0 ?_
        refine nw_ireturnZ l_L_law_500 rfl (Or.inl rfl) ?_
        exact h
  · replace h := h.2 q1
    refine nw_iconst (len := 0) l_L_law_482 483 rfl c_0 ?_
    refine nw_ireturnZ l_L_law_483 rfl (Or.inl rfl) ?_
    exact h
theorem b_L_law_512 {x5 : Int} {y0 : Int} {y1 : Int} (h : ((y1 = y0 → NW sc d_L_law D (3300, [some (.inr (.inl (some 1000000))), some (.inr (.inl (some 0))), some (.inr (.inl (some 303))), some (.inr (.inl (some 314))), some (.inr (.inl (some 315))), some (.inl x5), none, none, none], [], (J, L, W), c, sl) Qr Qx) ∧ (¬ y1 = y0 → Qr (some (.inl 0)) (J, L, W)))) :
    NW sc d_L_law D (512, [some (.inr (.inl (some 1000000))), some (.inr (.inl (some 0))), some (.inr (.inl (some 303))), some (.inr (.inl (some 314))), some (.inr (.inl (some 315))), some (.inl x5), none, none, none], [.inl y0, .inl y1], (J, L, W), c, sl) Qr Qx := by
  refine nw_ic_eq l_L_law_512 515 rfl (fun q1 => ?_) (fun q1 => ?_)
  · replace h := h.1 q1
    exact h
  · replace h := h.2 q1
    refine nw_iconst (len := 0) l_L_law_515 516 rfl c_0 ?_
    refine nw_ireturnZ l_L_law_516 rfl (Or.inl rfl) ?_
    exact h
theorem b_L_law_525 {x5 : Int} {y0 : Int} {y1 : Int} (h : ((y1 = y0 → NW sc d_L_law D (3300, [some (.inr (.inl (some 1000000))), some (.inr (.inl (some 0))), some (.inr (.inl (some 303))), some (.inr (.inl (some 314))), some (.inr (.inl (some 315))), some (.inl x5), none, none, none], [], (J, L, W), c, sl) Qr Qx) ∧ (¬ y1 = y0 → Qr (some (.inl 0)) (J, L, W)))) :
    NW sc d_L_law D (525, [some (.inr (.inl (some 1000000))), some (.inr (.inl (some 0))), some (.inr (.inl (some 303))), some (.inr (.inl (some 314))), some (.inr (.inl (some 315))), some (.inl x5), none, none, none], [.inl y0, .inl y1], (J, L, W), c, sl) Qr Qx := by
  refine nw_ic_eq l_L_law_525 528 rfl (fun q1 => ?_) (fun q1 => ?_)
  · replace h := h.1 q1
    exact h
  · replace h := h.2 q1
    refine nw_iconst (len := 0) l_L_law_528 529 rfl c_0 ?_
    refine nw_ireturnZ l_L_law_529 rfl (Or.inl rfl) ?_
    exact h
theorem b_L_law_553 {x5 : Int} {x6 : Int} {y0 : Int} (hD : 18 ≤ D) (h : ((J 303 13 = x6 → ((¬ x6 = 0 → NW sc d_L_law D (3300, [some (.inr (.inl (some 1000000))), some (.inr (.inl (some 0))), some (.inr (.inl (some 303))), some (.inr (.inl (some 314))), some (.inr (.inl (some 315))), some (.inl x5), none, none, none], [], (J, L, W), c, sl) Qr Qx) ∧ (x6 = 0 → ((nw_cmp3 (L 314 0) y0 = 0 → NW sc d_L_law D (3300, [some (.inr (.inl (some 1000000))), some (.inr (.inl (some 0))), some (.inr (.inl (some 303))), some (.inr (.inl (some 314))), some (.inr (.inl (some 315))), some (.inl x5), none, none, none], [], (J, L, W), c, sl) Qr Qx) ∧ (¬ nw_cmp3 (L 314 0) y0 = 0 → Qr (some (.inl 0)) (J, L, W)))))) ∧ (¬ J 303 13 = x6 → Qr (some (.inl 0)) (J, L, W)))) :
    NW sc d_L_law D (553, [some (.inr (.inl (some 1000000))), some (.inr (.inl (some 0))), some (.inr (.inl (some 303))), some (.inr (.inl (some 314))), some (.inr (.inl (some 315))), some (.inl x5), some (.inl x6), none, none], [.inl y0], (J, L, W), c, sl) Qr Qx := by
  refine nw_istore l_L_law_553 555 rfl rfl (ls' := [some (.inr (.inl (some 1000000))), some (.inr (.inl (some 0))), some (.inr (.inl (some 303))), some (.inr (.inl (some 314))), some (.inr (.inl (some 315))), some (.inl x5), some (.inl x6), some (.inl y0), none]) rfl ?_
  refine nw_aload_n l_L_law_555 556 rfl rfl ?_
  refine nw_call0 0 303 l_L_law_556 rfl rfl g_X12_thrown (Nat.lt_of_lt_of_le (by decide) hD) rfl (Or.inl ⟨_, rfl, k_303⟩) (ls' := [some (.inr (.inl (some 303)))]) rfl (st' := []) rfl 559 rfl ?_
  refine nw_aload_n l_X12_thrown_0 1 rfl rfl ?_
  refine nw_getI l_X12_thrown_1 4 rfl k_303 (v := J 303 13) rfl ?_
  refine nw_ireturn l_X12_thrown_4 rfl ?_
  refine nw_iload l_L_law_559 561 rfl rfl ?_
  refine nw_ic_eq l_L_law_561 564 rfl (fun q1 => ?_) (fun q1 => ?_)
  · replace h := h.1 q1
    refine nw_iload l_L_law_566 568 rfl rfl ?_
    refine nw_if_ne l_L_law_568 571 rfl (fun q2 => ?_) (fun q2 => ?_)
    · replace h := h.1 q2
      refine nw_goto l_L_law_583 ?_
      refine nw_drop (ls' := [some (.inr (.inl (some 1000000))), some (.inr (.inl (some 0))), some (.inr (.inl (some 303))), some (.inr (.inl (some 314))), some (.inr (.inl (some 315))), some (.inl x5), none, none, none]) ⟨rfl, ⟨rfl, ⟨rfl, ⟨rfl, ⟨rfl, ⟨rfl, ⟨True.intro, ⟨True.intro, ⟨True.intro, True.intro⟩⟩⟩⟩⟩⟩⟩⟩⟩ ?_
      exact h
    · replace h := h.2 q2
      refine nw_aload_n l_L_law_571 572 rfl rfl ?_
      refine nw_iconst (len := 0) l_L_law_572 573 rfl c_0 ?_
      refine nw_lald l_L_law_573 574 rfl k_314 ⟨by decide, by decide⟩ (v := L 314 0) rfl ?_
      refine nw_iload l_L_law_574 576 rfl rfl ?_
      refine nw_i2l l_L_law_576 577 rfl ?_
      refine nw_lcmp l_L_law_577 578 rfl ?_
      refine nw_if_eq l_L_law_578 581 rfl (fun q3 => ?_) (fun q3 => ?_)
      · replace h := h.1 q3
        refine nw_goto l_L_law_583 ?_
        refine nw_drop (ls' := [some (.inr (.inl (some 1000000))), some (.inr (.inl (some 0))), some (.inr (.inl (some 303))), some (.inr (.inl (some 314))), some (.inr (.inl (some 315))), some (.inl x5), none, none, none]) ⟨rfl, ⟨rfl, ⟨rfl, ⟨rfl, ⟨rfl, ⟨rfl, ⟨True.intro, ⟨True.intro, ⟨True.intro, True.intro⟩⟩⟩⟩⟩⟩⟩⟩⟩ ?_
        exact h
      · replace h := h.2 q3
        refine nw_iconst (len := 0) l_L_law_581 582 rfl c_0 ?_
        refine nw_ireturnZ l_L_law_582 rfl (Or.inl rfl) ?_
        exact h
  · replace h := h.2 q1
    refine nw_iconst (len := 0) l_L_law_564 565 rfl c_0 ?_
    refine nw_ireturnZ l_L_law_565 rfl (Or.inl rfl) ?_
    exact h
theorem b_L_law_621 {x5 : Int} {x6 : Int} {y0 : Int} (hD : 18 ≤ D) (h : ((J 303 13 = x6 → ((¬ x6 = 0 → NW sc d_L_law D (3300, [some (.inr (.inl (some 1000000))), some (.inr (.inl (some 0))), some (.inr (.inl (some 303))), some (.inr (.inl (some 314))), some (.inr (.inl (some 315))), some (.inl x5), none, none, none], [], (J, L, W), c, sl) Qr Qx) ∧ (x6 = 0 → ((nw_cmp3 (L 314 0) y0 = 0 → NW sc d_L_law D (3300, [some (.inr (.inl (some 1000000))), some (.inr (.inl (some 0))), some (.inr (.inl (some 303))), some (.inr (.inl (some 314))), some (.inr (.inl (some 315))), some (.inl x5), none, none, none], [], (J, L, W), c, sl) Qr Qx) ∧ (¬ nw_cmp3 (L 314 0) y0 = 0 → Qr (some (.inl 0)) (J, L, W)))))) ∧ (¬ J 303 13 = x6 → Qr (some (.inl 0)) (J, L, W)))) :
    NW sc d_L_law D (621, [some (.inr (.inl (some 1000000))), some (.inr (.inl (some 0))), some (.inr (.inl (some 303))), some (.inr (.inl (some 314))), some (.inr (.inl (some 315))), some (.inl x5), some (.inl x6), none, none], [.inl y0], (J, L, W), c, sl) Qr Qx := by
  refine nw_istore l_L_law_621 623 rfl rfl (ls' := [some (.inr (.inl (some 1000000))), some (.inr (.inl (some 0))), some (.inr (.inl (some 303))), some (.inr (.inl (some 314))), some (.inr (.inl (some 315))), some (.inl x5), some (.inl x6), some (.inl y0), none]) rfl ?_
  refine nw_aload_n l_L_law_623 624 rfl rfl ?_
  refine nw_call0 0 303 l_L_law_624 rfl rfl g_X12_thrown (Nat.lt_of_lt_of_le (by decide) hD) rfl (Or.inl ⟨_, rfl, k_303⟩) (ls' := [some (.inr (.inl (some 303)))]) rfl (st' := []) rfl 627 rfl ?_
  refine nw_aload_n l_X12_thrown_0 1 rfl rfl ?_
  refine nw_getI l_X12_thrown_1 4 rfl k_303 (v := J 303 13) rfl ?_
  refine nw_ireturn l_X12_thrown_4 rfl ?_
  refine nw_iload l_L_law_627 629 rfl rfl ?_
  refine nw_ic_eq l_L_law_629 632 rfl (fun q1 => ?_) (fun q1 => ?_)
  · replace h := h.1 q1
    refine nw_iload l_L_law_634 636 rfl rfl ?_
    refine nw_if_ne l_L_law_636 639 rfl (fun q2 => ?_) (fun q2 => ?_)
    · replace h := h.1 q2
      refine nw_goto l_L_law_651 ?_
      refine nw_drop (ls' := [some (.inr (.inl (some 1000000))), some (.inr (.inl (some 0))), some (.inr (.inl (some 303))), some (.inr (.inl (some 314))), some (.inr (.inl (some 315))), some (.inl x5), none, none, none]) ⟨rfl, ⟨rfl, ⟨rfl, ⟨rfl, ⟨rfl, ⟨rfl, ⟨True.intro, ⟨True.intro, ⟨True.intro, True.intro⟩⟩⟩⟩⟩⟩⟩⟩⟩ ?_
      exact h
    · replace h := h.2 q2
      refine nw_aload_n l_L_law_639 640 rfl rfl ?_
      refine nw_iconst (len := 0) l_L_law_640 641 rfl c_0 ?_
      refine nw_lald l_L_law_641 642 rfl k_314 ⟨by decide, by decide⟩ (v := L 314 0) rfl ?_
      refine nw_iload l_L_law_642 644 rfl rfl ?_
      refine nw_i2l l_L_law_644 645 rfl ?_
      refine nw_lcmp l_L_law_645 646 rfl ?_
      refine nw_if_eq l_L_law_646 649 rfl (fun q3 => ?_) (fun q3 => ?_)
      · replace h := h.1 q3
        refine nw_goto l_L_law_651 ?_
        refine nw_drop (ls' := [some (.inr (.inl (some 1000000))), some (.inr (.inl (some 0))), some (.inr (.inl (some 303))), some (.inr (.inl (some 314))), some (.inr (.inl (some 315))), some (.inl x5), none, none, none]) ⟨rfl, ⟨rfl, ⟨rfl, ⟨rfl, ⟨rfl, ⟨rfl, ⟨True.intro, ⟨True.intro, ⟨True.intro, True.intro⟩⟩⟩⟩⟩⟩⟩⟩⟩ ?_
        exact h
      · replace h := h.2 q3
        refine nw_iconst (len := 0) l_L_law_649 650 rfl c_0 ?_
        refine nw_ireturnZ l_L_law_650 rfl (Or.inl rfl) ?_
        exact h
  · replace h := h.2 q1
    refine nw_iconst (len := 0) l_L_law_632 633 rfl c_0 ?_
    refine nw_ireturnZ l_L_law_633 rfl (Or.inl rfl) ?_
    exact h
theorem b_L_law_677 {x5 : Int} {x6 : Int} {y0 : Int} (hD : 18 ≤ D) (h : ((J 303 13 = x6 → ((¬ x6 = 0 → NW sc d_L_law D (3300, [some (.inr (.inl (some 1000000))), some (.inr (.inl (some 0))), some (.inr (.inl (some 303))), some (.inr (.inl (some 314))), some (.inr (.inl (some 315))), some (.inl x5), none, none, none], [], (J, L, W), c, sl) Qr Qx) ∧ (x6 = 0 → ((nw_cmp3 (L 314 0) y0 = 0 → NW sc d_L_law D (3300, [some (.inr (.inl (some 1000000))), some (.inr (.inl (some 0))), some (.inr (.inl (some 303))), some (.inr (.inl (some 314))), some (.inr (.inl (some 315))), some (.inl x5), none, none, none], [], (J, L, W), c, sl) Qr Qx) ∧ (¬ nw_cmp3 (L 314 0) y0 = 0 → Qr (some (.inl 0)) (J, L, W)))))) ∧ (¬ J 303 13 = x6 → Qr (some (.inl 0)) (J, L, W)))) :
    NW sc d_L_law D (677, [some (.inr (.inl (some 1000000))), some (.inr (.inl (some 0))), some (.inr (.inl (some 303))), some (.inr (.inl (some 314))), some (.inr (.inl (some 315))), some (.inl x5), some (.inl x6), none, none], [.inl y0], (J, L, W), c, sl) Qr Qx := by
  refine nw_istore l_L_law_677 679 rfl rfl (ls' := [some (.inr (.inl (some 1000000))), some (.inr (.inl (some 0))), some (.inr (.inl (some 303))), some (.inr (.inl (some 314))), some (.inr (.inl (some 315))), some (.inl x5), some (.inl x6), some (.inl y0), none]) rfl ?_
  refine nw_aload_n l_L_law_679 680 rfl rfl ?_
  refine nw_call0 0 303 l_L_law_680 rfl rfl g_X12_thrown (Nat.lt_of_lt_of_le (by decide) hD) rfl (Or.inl ⟨_, rfl, k_303⟩) (ls' := [some (.inr (.inl (some 303)))]) rfl (st' := []) rfl 683 rfl ?_
  refine nw_aload_n l_X12_thrown_0 1 rfl rfl ?_
  refine nw_getI l_X12_thrown_1 4 rfl k_303 (v := J 303 13) rfl ?_
  refine nw_ireturn l_X12_thrown_4 rfl ?_
  refine nw_iload l_L_law_683 685 rfl rfl ?_
  refine nw_ic_eq l_L_law_685 688 rfl (fun q1 => ?_) (fun q1 => ?_)
  · replace h := h.1 q1
    refine nw_iload l_L_law_690 692 rfl rfl ?_
    refine nw_if_ne l_L_law_692 695 rfl (fun q2 => ?_) (fun q2 => ?_)
    · replace h := h.1 q2
      refine nw_goto l_L_law_707 ?_
      refine nw_drop (ls' := [some (.inr (.inl (some 1000000))), some (.inr (.inl (some 0))), some (.inr (.inl (some 303))), some (.inr (.inl (some 314))), some (.inr (.inl (some 315))), some (.inl x5), none, none, none]) ⟨rfl, ⟨rfl, ⟨rfl, ⟨rfl, ⟨rfl, ⟨rfl, ⟨True.intro, ⟨True.intro, ⟨True.intro, True.intro⟩⟩⟩⟩⟩⟩⟩⟩⟩ ?_
      exact h
    · replace h := h.2 q2
      refine nw_aload_n l_L_law_695 696 rfl rfl ?_
      refine nw_iconst (len := 0) l_L_law_696 697 rfl c_0 ?_
      refine nw_lald l_L_law_697 698 rfl k_314 ⟨by decide, by decide⟩ (v := L 314 0) rfl ?_
      refine nw_iload l_L_law_698 700 rfl rfl ?_
      refine nw_i2l l_L_law_700 701 rfl ?_
      refine nw_lcmp l_L_law_701 702 rfl ?_
      refine nw_if_eq l_L_law_702 705 rfl (fun q3 => ?_) (fun q3 => ?_)
      · replace h := h.1 q3
        refine nw_goto l_L_law_707 ?_
        refine nw_drop (ls' := [some (.inr (.inl (some 1000000))), some (.inr (.inl (some 0))), some (.inr (.inl (some 303))), some (.inr (.inl (some 314))), some (.inr (.inl (some 315))), some (.inl x5), none, none, none]) ⟨rfl, ⟨rfl, ⟨rfl, ⟨rfl, ⟨rfl, ⟨rfl, ⟨True.intro, ⟨True.intro, ⟨True.intro, True.intro⟩⟩⟩⟩⟩⟩⟩⟩⟩ ?_
        exact h
      · replace h := h.2 q3
        refine nw_iconst (len := 0) l_L_law_705 706 rfl c_0 ?_
        refine nw_ireturnZ l_L_law_706 rfl (Or.inl rfl) ?_
        exact h
  · replace h := h.2 q1
    refine nw_iconst (len := 0) l_L_law_688 689 rfl c_0 ?_
    refine nw_ireturnZ l_L_law_689 rfl (Or.inl rfl) ?_
    exact h
theorem b_L_law_745 {x5 : Int} {x6 : Int} {y0 : Int} (hD : 18 ≤ D) (h : ((J 303 13 = x6 → ((¬ x6 = 0 → NW sc d_L_law D (3300, [some (.inr (.inl (some 1000000))), some (.inr (.inl (some 0))), some (.inr (.inl (some 303))), some (.inr (.inl (some 314))), some (.inr (.inl (some 315))), some (.inl x5), none, none, none], [], (J, L, W), c, sl) Qr Qx) ∧ (x6 = 0 → ((nw_cmp3 (L 314 0) y0 = 0 → NW sc d_L_law D (3300, [some (.inr (.inl (some 1000000))), some (.inr (.inl (some 0))), some (.inr (.inl (some 303))), some (.inr (.inl (some 314))), some (.inr (.inl (some 315))), some (.inl x5), none, none, none], [], (J, L, W), c, sl) Qr Qx) ∧ (¬ nw_cmp3 (L 314 0) y0 = 0 → Qr (some (.inl 0)) (J, L, W)))))) ∧ (¬ J 303 13 = x6 → Qr (some (.inl 0)) (J, L, W)))) :
    NW sc d_L_law D (745, [some (.inr (.inl (some 1000000))), some (.inr (.inl (some 0))), some (.inr (.inl (some 303))), some (.inr (.inl (some 314))), some (.inr (.inl (some 315))), some (.inl x5), some (.inl x6), none, none], [.inl y0], (J, L, W), c, sl) Qr Qx := by
  refine nw_istore l_L_law_745 747 rfl rfl (ls' := [some (.inr (.inl (some 1000000))), some (.inr (.inl (some 0))), some (.inr (.inl (some 303))), some (.inr (.inl (some 314))), some (.inr (.inl (some 315))), some (.inl x5), some (.inl x6), some (.inl y0), none]) rfl ?_
  refine nw_aload_n l_L_law_747 748 rfl rfl ?_
  refine nw_call0 0 303 l_L_law_748 rfl rfl g_X12_thrown (Nat.lt_of_lt_of_le (by decide) hD) rfl (Or.inl ⟨_, rfl, k_303⟩) (ls' := [some (.inr (.inl (some 303)))]) rfl (st' := []) rfl 751 rfl ?_
  refine nw_aload_n l_X12_thrown_0 1 rfl rfl ?_
  refine nw_getI l_X12_thrown_1 4 rfl k_303 (v := J 303 13) rfl ?_
  refine nw_ireturn l_X12_thrown_4 rfl ?_
  refine nw_iload l_L_law_751 753 rfl rfl ?_
  refine nw_ic_eq l_L_law_753 756 rfl (fun q1 => ?_) (fun q1 => ?_)
  · replace h := h.1 q1
    refine nw_iload l_L_law_758 760 rfl rfl ?_
    refine nw_if_ne l_L_law_760 763 rfl (fun q2 => ?_) (fun q2 => ?_)
    · replace h := h.1 q2
      refine nw_goto l_L_law_775 ?_
      refine nw_drop (ls' := [some (.inr (.inl (some 1000000))), some (.inr (.inl (some 0))), some (.inr (.inl (some 303))), some (.inr (.inl (some 314))), some (.inr (.inl (some 315))), some (.inl x5), none, none, none]) ⟨rfl, ⟨rfl, ⟨rfl, ⟨rfl, ⟨rfl, ⟨rfl, ⟨True.intro, ⟨True.intro, ⟨True.intro, True.intro⟩⟩⟩⟩⟩⟩⟩⟩⟩ ?_
      exact h
    · replace h := h.2 q2
      refine nw_aload_n l_L_law_763 764 rfl rfl ?_
      refine nw_iconst (len := 0) l_L_law_764 765 rfl c_0 ?_
      refine nw_lald l_L_law_765 766 rfl k_314 ⟨by decide, by decide⟩ (v := L 314 0) rfl ?_
      refine nw_iload l_L_law_766 768 rfl rfl ?_
      refine nw_i2l l_L_law_768 769 rfl ?_
      refine nw_lcmp l_L_law_769 770 rfl ?_
      refine nw_if_eq l_L_law_770 773 rfl (fun q3 => ?_) (fun q3 => ?_)
      · replace h := h.1 q3
        refine nw_goto l_L_law_775 ?_
        refine nw_drop (ls' := [some (.inr (.inl (some 1000000))), some (.inr (.inl (some 0))), some (.inr (.inl (some 303))), some (.inr (.inl (some 314))), some (.inr (.inl (some 315))), some (.inl x5), none, none, none]) ⟨rfl, ⟨rfl, ⟨rfl, ⟨rfl, ⟨rfl, ⟨rfl, ⟨True.intro, ⟨True.intro, ⟨True.intro, True.intro⟩⟩⟩⟩⟩⟩⟩⟩⟩ ?_
        exact h
      · replace h := h.2 q3
        refine nw_iconst (len := 0) l_L_law_773 774 rfl c_0 ?_
        refine nw_ireturnZ l_L_law_774 rfl (Or.inl rfl) ?_
        exact h
  · replace h := h.2 q1
    refine nw_iconst (len := 0) l_L_law_756 757 rfl c_0 ?_
    refine nw_ireturnZ l_L_law_757 rfl (Or.inl rfl) ?_
    exact h
theorem b_L_law_813 {x5 : Int} {x6 : Int} {y0 : Int} (hD : 18 ≤ D) (h : ((J 303 13 = x6 → ((¬ x6 = 0 → NW sc d_L_law D (3300, [some (.inr (.inl (some 1000000))), some (.inr (.inl (some 0))), some (.inr (.inl (some 303))), some (.inr (.inl (some 314))), some (.inr (.inl (some 315))), some (.inl x5), none, none, none], [], (J, L, W), c, sl) Qr Qx) ∧ (x6 = 0 → ((nw_cmp3 (L 314 0) y0 = 0 → NW sc d_L_law D (3300, [some (.inr (.inl (some 1000000))), some (.inr (.inl (some 0))), some (.inr (.inl (some 303))), some (.inr (.inl (some 314))), some (.inr (.inl (some 315))), some (.inl x5), none, none, none], [], (J, L, W), c, sl) Qr Qx) ∧ (¬ nw_cmp3 (L 314 0) y0 = 0 → Qr (some (.inl 0)) (J, L, W)))))) ∧ (¬ J 303 13 = x6 → Qr (some (.inl 0)) (J, L, W)))) :
    NW sc d_L_law D (813, [some (.inr (.inl (some 1000000))), some (.inr (.inl (some 0))), some (.inr (.inl (some 303))), some (.inr (.inl (some 314))), some (.inr (.inl (some 315))), some (.inl x5), some (.inl x6), none, none], [.inl y0], (J, L, W), c, sl) Qr Qx := by
  refine nw_istore l_L_law_813 815 rfl rfl (ls' := [some (.inr (.inl (some 1000000))), some (.inr (.inl (some 0))), some (.inr (.inl (some 303))), some (.inr (.inl (some 314))), some (.inr (.inl (some 315))), some (.inl x5), some (.inl x6), some (.inl y0), none]) rfl ?_
  refine nw_aload_n l_L_law_815 816 rfl rfl ?_
  refine nw_call0 0 303 l_L_law_816 rfl rfl g_X12_thrown (Nat.lt_of_lt_of_le (by decide) hD) rfl (Or.inl ⟨_, rfl, k_303⟩) (ls' := [some (.inr (.inl (some 303)))]) rfl (st' := []) rfl 819 rfl ?_
  refine nw_aload_n l_X12_thrown_0 1 rfl rfl ?_
  refine nw_getI l_X12_thrown_1 4 rfl k_303 (v := J 303 13) rfl ?_
  refine nw_ireturn l_X12_thrown_4 rfl ?_
  refine nw_iload l_L_law_819 821 rfl rfl ?_
  refine nw_ic_eq l_L_law_821 824 rfl (fun q1 => ?_) (fun q1 => ?_)
  · replace h := h.1 q1
    refine nw_iload l_L_law_826 828 rfl rfl ?_
    refine nw_if_ne l_L_law_828 831 rfl (fun q2 => ?_) (fun q2 => ?_)
    · replace h := h.1 q2
      refine nw_goto l_L_law_843 ?_
      refine nw_drop (ls' := [some (.inr (.inl (some 1000000))), some (.inr (.inl (some 0))), some (.inr (.inl (some 303))), some (.inr (.inl (some 314))), some (.inr (.inl (some 315))), some (.inl x5), none, none, none]) ⟨rfl, ⟨rfl, ⟨rfl, ⟨rfl, ⟨rfl, ⟨rfl, ⟨True.intro, ⟨True.intro, ⟨True.intro, True.intro⟩⟩⟩⟩⟩⟩⟩⟩⟩ ?_
      exact h
    · replace h := h.2 q2
      refine nw_aload_n l_L_law_831 832 rfl rfl ?_
      refine nw_iconst (len := 0) l_L_law_832 833 rfl c_0 ?_
      refine nw_lald l_L_law_833 834 rfl k_314 ⟨by decide, by decide⟩ (v := L 314 0) rfl ?_
      refine nw_iload l_L_law_834 836 rfl rfl ?_
      refine nw_i2l l_L_law_836 837 rfl ?_
      refine nw_lcmp l_L_law_837 838 rfl ?_
      refine nw_if_eq l_L_law_838 841 rfl (fun q3 => ?_) (fun q3 => ?_)
      · replace h := h.1 q3
        refine nw_goto l_L_law_843 ?_
        refine nw_drop (ls' := [some (.inr (.inl (some 1000000))), some (.inr (.inl (some 0))), some (.inr (.inl (some 303))), some (.inr (.inl (some 314))), some (.inr (.inl (some 315))), some (.inl x5), none, none, none]) ⟨rfl, ⟨rfl, ⟨rfl, ⟨rfl, ⟨rfl, ⟨rfl, ⟨True.intro, ⟨True.intro, ⟨True.intro, True.intro⟩⟩⟩⟩⟩⟩⟩⟩⟩ ?_
        exact h
      · replace h := h.2 q3
        refine nw_iconst (len := 0) l_L_law_841 842 rfl c_0 ?_
        refine nw_ireturnZ l_L_law_842 rfl (Or.inl rfl) ?_
        exact h
  · replace h := h.2 q1
    refine nw_iconst (len := 0) l_L_law_824 825 rfl c_0 ?_
    refine nw_ireturnZ l_L_law_825 rfl (Or.inl rfl) ?_
    exact h
theorem b_L_law_857 {x5 : Int} {x6 : Int} {y0 : Int} (hD : 18 ≤ D) (h : ((J 303 13 = x6 → ((¬ x6 = 0 → NW sc d_L_law D (3300, [some (.inr (.inl (some 1000000))), some (.inr (.inl (some 0))), some (.inr (.inl (some 303))), some (.inr (.inl (some 314))), some (.inr (.inl (some 315))), some (.inl x5), none, none, none], [], (J, L, W), c, sl) Qr Qx) ∧ (x6 = 0 → ((nw_cmp3 (L 314 0) y0 = 0 → NW sc d_L_law D (3300, [some (.inr (.inl (some 1000000))), some (.inr (.inl (some 0))), some (.inr (.inl (some 303))), some (.inr (.inl (some 314))), some (.inr (.inl (some 315))), some (.inl x5), none, none, none], [], (J, L, W), c, sl) Qr Qx) ∧ (¬ nw_cmp3 (L 314 0) y0 = 0 → Qr (some (.inl 0)) (J, L, W)))))) ∧ (¬ J 303 13 = x6 → Qr (some (.inl 0)) (J, L, W)))) :
    NW sc d_L_law D (857, [some (.inr (.inl (some 1000000))), some (.inr (.inl (some 0))), some (.inr (.inl (some 303))), some (.inr (.inl (some 314))), some (.inr (.inl (some 315))), some (.inl x5), some (.inl x6), none, none], [.inl y0], (J, L, W), c, sl) Qr Qx := by
  refine nw_istore l_L_law_857 859 rfl rfl (ls' := [some (.inr (.inl (some 1000000))), some (.inr (.inl (some 0))), some (.inr (.inl (some 303))), some (.inr (.inl (some 314))), some (.inr (.inl (some 315))), some (.inl x5), some (.inl x6), some (.inl y0), none]) rfl ?_
  refine nw_aload_n l_L_law_859 860 rfl rfl ?_
  refine nw_call0 0 303 l_L_law_860 rfl rfl g_X12_thrown (Nat.lt_of_lt_of_le (by decide) hD) rfl (Or.inl ⟨_, rfl, k_303⟩) (ls' := [some (.inr (.inl (some 303)))]) rfl (st' := []) rfl 863 rfl ?_
  refine nw_aload_n l_X12_thrown_0 1 rfl rfl ?_
  refine nw_getI l_X12_thrown_1 4 rfl k_303 (v := J 303 13) rfl ?_
  refine nw_ireturn l_X12_thrown_4 rfl ?_
  refine nw_iload l_L_law_863 865 rfl rfl ?_
  refine nw_ic_eq l_L_law_865 868 rfl (fun q1 => ?_) (fun q1 => ?_)
  · replace h := h.1 q1
    refine nw_iload l_L_law_870 872 rfl rfl ?_
    refine nw_if_ne l_L_law_872 875 rfl (fun q2 => ?_) (fun q2 => ?_)
    · replace h := h.1 q2
      refine nw_goto l_L_law_887 ?_
      refine nw_drop (ls' := [some (.inr (.inl (some 1000000))), some (.inr (.inl (some 0))), some (.inr (.inl (some 303))), some (.inr (.inl (some 314))), some (.inr (.inl (some 315))), some (.inl x5), none, none, none]) ⟨rfl, ⟨rfl, ⟨rfl, ⟨rfl, ⟨rfl, ⟨rfl, ⟨True.intro, ⟨True.intro, ⟨True.intro, True.intro⟩⟩⟩⟩⟩⟩⟩⟩⟩ ?_
      exact h
    · replace h := h.2 q2
      refine nw_aload_n l_L_law_875 876 rfl rfl ?_
      refine nw_iconst (len := 0) l_L_law_876 877 rfl c_0 ?_
      refine nw_lald l_L_law_877 878 rfl k_314 ⟨by decide, by decide⟩ (v := L 314 0) rfl ?_
      refine nw_iload l_L_law_878 880 rfl rfl ?_
      refine nw_i2l l_L_law_880 881 rfl ?_
      refine nw_lcmp l_L_law_881 882 rfl ?_
      refine nw_if_eq l_L_law_882 885 rfl (fun q3 => ?_) (fun q3 => ?_)
      · replace h := h.1 q3
        refine nw_goto l_L_law_887 ?_
        refine nw_drop (ls' := [some (.inr (.inl (some 1000000))), some (.inr (.inl (some 0))), some (.inr (.inl (some 303))), some (.inr (.inl (some 314))), some (.inr (.inl (some 315))), some (.inl x5), none, none, none]) ⟨rfl, ⟨rfl, ⟨rfl, ⟨rfl, ⟨rfl, ⟨rfl, ⟨True.intro, ⟨True.intro, ⟨True.intro, True.intro⟩⟩⟩⟩⟩⟩⟩⟩⟩ ?_
        exact h
      · replace h := h.2 q3
        refine nw_iconst (len := 0) l_L_law_885 886 rfl c_0 ?_
        refine nw_ireturnZ l_L_law_886 rfl (Or.inl rfl) ?_
        exact h
  · replace h := h.2 q1
    refine nw_iconst (len := 0) l_L_law_868 869 rfl c_0 ?_
    refine nw_ireturnZ l_L_law_869 rfl (Or.inl rfl) ?_
    exact h
theorem b_L_law_901 {x5 : Int} {x6 : Int} {y0 : Int} (hD : 18 ≤ D) (h : ((J 303 13 = x6 → ((¬ x6 = 0 → NW sc d_L_law D (3300, [some (.inr (.inl (some 1000000))), some (.inr (.inl (some 0))), some (.inr (.inl (some 303))), some (.inr (.inl (some 314))), some (.inr (.inl (some 315))), some (.inl x5), none, none, none], [], (J, L, W), c, sl) Qr Qx) ∧ (x6 = 0 → ((nw_cmp3 (L 314 0) y0 = 0 → NW sc d_L_law D (3300, [some (.inr (.inl (some 1000000))), some (.inr (.inl (some 0))), some (.inr (.inl (some 303))), some (.inr (.inl (some 314))), some (.inr (.inl (some 315))), some (.inl x5), none, none, none], [], (J, L, W), c, sl) Qr Qx) ∧ (¬ nw_cmp3 (L 314 0) y0 = 0 → Qr (some (.inl 0)) (J, L, W)))))) ∧ (¬ J 303 13 = x6 → Qr (some (.inl 0)) (J, L, W)))) :
    NW sc d_L_law D (901, [some (.inr (.inl (some 1000000))), some (.inr (.inl (some 0))), some (.inr (.inl (some 303))), some (.inr (.inl (some 314))), some (.inr (.inl (some 315))), some (.inl x5), some (.inl x6), none, none], [.inl y0], (J, L, W), c, sl) Qr Qx := by
  refine nw_istore l_L_law_901 903 rfl rfl (ls' := [some (.inr (.inl (some 1000000))), some (.inr (.inl (some 0))), some (.inr (.inl (some 303))), some (.inr (.inl (some 314))), some (.inr (.inl (some 315))), some (.inl x5), some (.inl x6), some (.inl y0), none]) rfl ?_
  refine nw_aload_n l_L_law_903 904 rfl rfl ?_
  refine nw_call0 0 303 l_L_law_904 rfl rfl g_X12_thrown (Nat.lt_of_lt_of_le (by decide) hD) rfl (Or.inl ⟨_, rfl, k_303⟩) (ls' := [some (.inr (.inl (some 303)))]) rfl (st' := []) rfl 907 rfl ?_
  refine nw_aload_n l_X12_thrown_0 1 rfl rfl ?_
  refine nw_getI l_X12_thrown_1 4 rfl k_303 (v := J 303 13) rfl ?_
  refine nw_ireturn l_X12_thrown_4 rfl ?_
  refine nw_iload l_L_law_907 909 rfl rfl ?_
  refine nw_ic_eq l_L_law_909 912 rfl (fun q1 => ?_) (fun q1 => ?_)
  · replace h := h.1 q1
    refine nw_iload l_L_law_914 916 rfl rfl ?_
    refine nw_if_ne l_L_law_916 919 rfl (fun q2 => ?_) (fun q2 => ?_)
    · replace h := h.1 q2
      refine nw_goto l_L_law_931 ?_
      refine nw_drop (ls' := [some (.inr (.inl (some 1000000))), some (.inr (.inl (some 0))), some (.inr (.inl (some 303))), some (.inr (.inl (some 314))), some (.inr (.inl (some 315))), some (.inl x5), none, none, none]) ⟨rfl, ⟨rfl, ⟨rfl, ⟨rfl, ⟨rfl, ⟨rfl, ⟨True.intro, ⟨True.intro, ⟨True.intro, True.intro⟩⟩⟩⟩⟩⟩⟩⟩⟩ ?_
      exact h
    · replace h := h.2 q2
      refine nw_aload_n l_L_law_919 920 rfl rfl ?_
      refine nw_iconst (len := 0) l_L_law_920 921 rfl c_0 ?_
      refine nw_lald l_L_law_921 922 rfl k_314 ⟨by decide, by decide⟩ (v := L 314 0) rfl ?_
      refine nw_iload l_L_law_922 924 rfl rfl ?_
      refine nw_i2l l_L_law_924 925 rfl ?_
      refine nw_lcmp l_L_law_925 926 rfl ?_
      refine nw_if_eq l_L_law_926 929 rfl (fun q3 => ?_) (fun q3 => ?_)
      · replace h := h.1 q3
        refine nw_goto l_L_law_931 ?_
        refine nw_drop (ls' := [some (.inr (.inl (some 1000000))), some (.inr (.inl (some 0))), some (.inr (.inl (some 303))), some (.inr (.inl (some 314))), some (.inr (.inl (some 315))), some (.inl x5), none, none, none]) ⟨rfl, ⟨rfl, ⟨rfl, ⟨rfl, ⟨rfl, ⟨rfl, ⟨True.intro, ⟨True.intro, ⟨True.intro, True.intro⟩⟩⟩⟩⟩⟩⟩⟩⟩ ?_
        exact h
      · replace h := h.2 q3
        refine nw_iconst (len := 0) l_L_law_929 930 rfl c_0 ?_
        refine nw_ireturnZ l_L_law_930 rfl (Or.inl rfl) ?_
        exact h
  · replace h := h.2 q1
    refine nw_iconst (len := 0) l_L_law_912 913 rfl c_0 ?_
    refine nw_ireturnZ l_L_law_913 rfl (Or.inl rfl) ?_
    exact h
theorem b_L_law_981 {x5 : Int} {x6 : Int} {y0 : Int} (hD : 18 ≤ D) (h : ((J 303 13 = x6 → ((¬ x6 = 0 → NW sc d_L_law D (3300, [some (.inr (.inl (some 1000000))), some (.inr (.inl (some 0))), some (.inr (.inl (some 303))), some (.inr (.inl (some 314))), some (.inr (.inl (some 315))), some (.inl x5), none, none, none], [], (J, L, W), c, sl) Qr Qx) ∧ (x6 = 0 → ((nw_cmp3 (L 314 0) y0 = 0 → NW sc d_L_law D (3300, [some (.inr (.inl (some 1000000))), some (.inr (.inl (some 0))), some (.inr (.inl (some 303))), some (.inr (.inl (some 314))), some (.inr (.inl (some 315))), some (.inl x5), none, none, none], [], (J, L, W), c, sl) Qr Qx) ∧ (¬ nw_cmp3 (L 314 0) y0 = 0 → Qr (some (.inl 0)) (J, L, W)))))) ∧ (¬ J 303 13 = x6 → Qr (some (.inl 0)) (J, L, W)))) :
    NW sc d_L_law D (981, [some (.inr (.inl (some 1000000))), some (.inr (.inl (some 0))), some (.inr (.inl (some 303))), some (.inr (.inl (some 314))), some (.inr (.inl (some 315))), some (.inl x5), some (.inl x6), none, none], [.inl y0], (J, L, W), c, sl) Qr Qx := by
  refine nw_istore l_L_law_981 983 rfl rfl (ls' := [some (.inr (.inl (some 1000000))), some (.inr (.inl (some 0))), some (.inr (.inl (some 303))), some (.inr (.inl (some 314))), some (.inr (.inl (some 315))), some (.inl x5), some (.inl x6), some (.inl y0), none]) rfl ?_
  refine nw_aload_n l_L_law_983 984 rfl rfl ?_
  refine nw_call0 0 303 l_L_law_984 rfl rfl g_X12_thrown (Nat.lt_of_lt_of_le (by decide) hD) rfl (Or.inl ⟨_, rfl, k_303⟩) (ls' := [some (.inr (.inl (some 303)))]) rfl (st' := []) rfl 987 rfl ?_
  refine nw_aload_n l_X12_thrown_0 1 rfl rfl ?_
  refine nw_getI l_X12_thrown_1 4 rfl k_303 (v := J 303 13) rfl ?_
  refine nw_ireturn l_X12_thrown_4 rfl ?_
  refine nw_iload l_L_law_987 989 rfl rfl ?_
  refine nw_ic_eq l_L_law_989 992 rfl (fun q1 => ?_) (fun q1 => ?_)
  · replace h := h.1 q1
    refine nw_iload l_L_law_994 996 rfl rfl ?_
    refine nw_if_ne l_L_law_996 999 rfl (fun q2 => ?_) (fun q2 => ?_)
    · replace h := h.1 q2
      refine nw_goto l_L_law_1011 ?_
      refine nw_drop (ls' := [some (.inr (.inl (some 1000000))), some (.inr (.inl (some 0))), some (.inr (.inl (some 303))), some (.inr (.inl (some 314))), some (.inr (.inl (some 315))), some (.inl x5), none, none, none]) ⟨rfl, ⟨rfl, ⟨rfl, ⟨rfl, ⟨rfl, ⟨rfl, ⟨True.intro, ⟨True.intro, ⟨True.intro, True.intro⟩⟩⟩⟩⟩⟩⟩⟩⟩ ?_
      exact h
    · replace h := h.2 q2
      refine nw_aload_n l_L_law_999 1000 rfl rfl ?_
      refine nw_iconst (len := 0) l_L_law_1000 1001 rfl c_0 ?_
      refine nw_lald l_L_law_1001 1002 rfl k_314 ⟨by decide, by decide⟩ (v := L 314 0) rfl ?_
      refine nw_iload l_L_law_1002 1004 rfl rfl ?_
      refine nw_i2l l_L_law_1004 1005 rfl ?_
      refine nw_lcmp l_L_law_1005 1006 rfl ?_
      refine nw_if_eq l_L_law_1006 1009 rfl (fun q3 => ?_) (fun q3 => ?_)
      · replace h := h.1 q3
        refine nw_goto l_L_law_1011 ?_
        refine nw_drop (ls' := [some (.inr (.inl (some 1000000))), some (.inr (.inl (some 0))), some (.inr (.inl (some 303))), some (.inr (.inl (some 314))), some (.inr (.inl (some 315))), some (.inl x5), none, none, none]) ⟨rfl, ⟨rfl, ⟨rfl, ⟨rfl, ⟨rfl, ⟨rfl, ⟨True.intro, ⟨True.intro, ⟨True.intro, True.intro⟩⟩⟩⟩⟩⟩⟩⟩⟩ ?_
        exact h
      · replace h := h.2 q3
        refine nw_iconst (len := 0) l_L_law_1009 1010 rfl c_0 ?_
        refine nw_ireturnZ l_L_law_1010 rfl (Or.inl rfl) ?_
        exact h
  · replace h := h.2 q1
    refine nw_iconst (len := 0) l_L_law_992 993 rfl c_0 ?_
    refine nw_ireturnZ l_L_law_993 rfl (Or.inl rfl) ?_
    exact h
theorem b_L_law_1049 {x5 : Int} {x6 : Int} {y0 : Int} (hD : 18 ≤ D) (h : ((J 303 13 = x6 → ((¬ x6 = 0 → NW sc d_L_law D (3300, [some (.inr (.inl (some 1000000))), some (.inr (.inl (some 0))), some (.inr (.inl (some 303))), some (.inr (.inl (some 314))), some (.inr (.inl (some 315))), some (.inl x5), none, none, none], [], (J, L, W), c, sl) Qr Qx) ∧ (x6 = 0 → ((nw_cmp3 (L 314 0) y0 = 0 → NW sc d_L_law D (3300, [some (.inr (.inl (some 1000000))), some (.inr (.inl (some 0))), some (.inr (.inl (some 303))), some (.inr (.inl (some 314))), some (.inr (.inl (some 315))), some (.inl x5), none, none, none], [], (J, L, W), c, sl) Qr Qx) ∧ (¬ nw_cmp3 (L 314 0) y0 = 0 → Qr (some (.inl 0)) (J, L, W)))))) ∧ (¬ J 303 13 = x6 → Qr (some (.inl 0)) (J, L, W)))) :
    NW sc d_L_law D (1049, [some (.inr (.inl (some 1000000))), some (.inr (.inl (some 0))), some (.inr (.inl (some 303))), some (.inr (.inl (some 314))), some (.inr (.inl (some 315))), some (.inl x5), some (.inl x6), none, none], [.inl y0], (J, L, W), c, sl) Qr Qx := by
  refine nw_istore l_L_law_1049 1051 rfl rfl (ls' := [some (.inr (.inl (some 1000000))), some (.inr (.inl (some 0))), some (.inr (.inl (some 303))), some (.inr (.inl (some 314))), some (.inr (.inl (some 315))), some (.inl x5), some (.inl x6), some (.inl y0), none]) rfl ?_
  refine nw_aload_n l_L_law_1051 1052 rfl rfl ?_
  refine nw_call0 0 303 l_L_law_1052 rfl rfl g_X12_thrown (Nat.lt_of_lt_of_le (by decide) hD) rfl (Or.inl ⟨_, rfl, k_303⟩) (ls' := [some (.inr (.inl (some 303)))]) rfl (st' := []) rfl 1055 rfl ?_
  refine nw_aload_n l_X12_thrown_0 1 rfl rfl ?_
  refine nw_getI l_X12_thrown_1 4 rfl k_303 (v := J 303 13) rfl ?_
  refine nw_ireturn l_X12_thrown_4 rfl ?_
  refine nw_iload l_L_law_1055 1057 rfl rfl ?_
  refine nw_ic_eq l_L_law_1057 1060 rfl (fun q1 => ?_) (fun q1 => ?_)
  · replace h := h.1 q1
    refine nw_iload l_L_law_1062 1064 rfl rfl ?_
    refine nw_if_ne l_L_law_1064 1067 rfl (fun q2 => ?_) (fun q2 => ?_)
    · replace h := h.1 q2
      refine nw_goto l_L_law_1079 ?_
      refine nw_drop (ls' := [some (.inr (.inl (some 1000000))), some (.inr (.inl (some 0))), some (.inr (.inl (some 303))), some (.inr (.inl (some 314))), some (.inr (.inl (some 315))), some (.inl x5), none, none, none]) ⟨rfl, ⟨rfl, ⟨rfl, ⟨rfl, ⟨rfl, ⟨rfl, ⟨True.intro, ⟨True.intro, ⟨True.intro, True.intro⟩⟩⟩⟩⟩⟩⟩⟩⟩ ?_
      exact h
    · replace h := h.2 q2
      refine nw_aload_n l_L_law_1067 1068 rfl rfl ?_
      refine nw_iconst (len := 0) l_L_law_1068 1069 rfl c_0 ?_
      refine nw_lald l_L_law_1069 1070 rfl k_314 ⟨by decide, by decide⟩ (v := L 314 0) rfl ?_
      refine nw_iload l_L_law_1070 1072 rfl rfl ?_
      refine nw_i2l l_L_law_1072 1073 rfl ?_
      refine nw_lcmp l_L_law_1073 1074 rfl ?_
      refine nw_if_eq l_L_law_1074 1077 rfl (fun q3 => ?_) (fun q3 => ?_)
      · replace h := h.1 q3
        refine nw_goto l_L_law_1079 ?_
        refine nw_drop (ls' := [some (.inr (.inl (some 1000000))), some (.inr (.inl (some 0))), some (.inr (.inl (some 303))), some (.inr (.inl (some 314))), some (.inr (.inl (some 315))), some (.inl x5), none, none, none]) ⟨rfl, ⟨rfl, ⟨rfl, ⟨rfl, ⟨rfl, ⟨rfl, ⟨True.intro, ⟨True.intro, ⟨True.intro, True.intro⟩⟩⟩⟩⟩⟩⟩⟩⟩ ?_
        exact h
      · replace h := h.2 q3
        refine nw_iconst (len := 0) l_L_law_1077 1078 rfl c_0 ?_
        refine nw_ireturnZ l_L_law_1078 rfl (Or.inl rfl) ?_
        exact h
  · replace h := h.2 q1
    refine nw_iconst (len := 0) l_L_law_1060 1061 rfl c_0 ?_
    refine nw_ireturnZ l_L_law_1061 rfl (Or.inl rfl) ?_
    exact h
theorem b_L_law_1105 {x5 : Int} {x6 : Int} {y0 : Int} (hD : 18 ≤ D) (h : ((J 303 13 = x6 → ((¬ x6 = 0 → NW sc d_L_law D (3300, [some (.inr (.inl (some 1000000))), some (.inr (.inl (some 0))), some (.inr (.inl (some 303))), some (.inr (.inl (some 314))), some (.inr (.inl (some 315))), some (.inl x5), none, none, none], [], (J, L, W), c, sl) Qr Qx) ∧ (x6 = 0 → ((y0 = 0 → ((nw_cmp3 (L 314 0) 0 = 0 → NW sc d_L_law D (3300, [some (.inr (.inl (some 1000000))), some (.inr (.inl (some 0))), some (.inr (.inl (some 303))), some (.inr (.inl (some 314))), some (.inr (.inl (some 315))), some (.inl x5), none, none, none], [], (J, L, W), c, sl) Qr Qx) ∧ (¬ nw_cmp3 (L 314 0) 0 = 0 → Qr (some (.inl 0)) (J, L, W)))) ∧ (¬ y0 = 0 → ((nw_cmp3 (L 314 0) 1 = 0 → NW sc d_L_law D (3300, [some (.inr (.inl (some 1000000))), some (.inr (.inl (some 0))), some (.inr (.inl (some 303))), some (.inr (.inl (some 314))), some (.inr (.inl (some 315))), some (.inl x5), none, none, none], [], (J, L, W), c, sl) Qr Qx) ∧ (¬ nw_cmp3 (L 314 0) 1 = 0 → Qr (some (.inl 0)) (J, L, W)))))))) ∧ (¬ J 303 13 = x6 → Qr (some (.inl 0)) (J, L, W)))) :
    NW sc d_L_law D (1105, [some (.inr (.inl (some 1000000))), some (.inr (.inl (some 0))), some (.inr (.inl (some 303))), some (.inr (.inl (some 314))), some (.inr (.inl (some 315))), some (.inl x5), some (.inl x6), none, none], [.inl y0], (J, L, W), c, sl) Qr Qx := by
  refine nw_istore l_L_law_1105 1107 rfl rfl (ls' := [some (.inr (.inl (some 1000000))), some (.inr (.inl (some 0))), some (.inr (.inl (some 303))), some (.inr (.inl (some 314))), some (.inr (.inl (some 315))), some (.inl x5), some (.inl x6), some (.inl y0), none]) rfl ?_
  refine nw_aload_n l_L_law_1107 1108 rfl rfl ?_
  refine nw_call0 0 303 l_L_law_1108 rfl rfl g_X12_thrown (Nat.lt_of_lt_of_le (by decide) hD) rfl (Or.inl ⟨_, rfl, k_303⟩) (ls' := [some (.inr (.inl (some 303)))]) rfl (st' := []) rfl 1111 rfl ?_
  refine nw_aload_n l_X12_thrown_0 1 rfl rfl ?_
  refine nw_getI l_X12_thrown_1 4 rfl k_303 (v := J 303 13) rfl ?_
  refine nw_ireturn l_X12_thrown_4 rfl ?_
  refine nw_iload l_L_law_1111 1113 rfl rfl ?_
  refine nw_ic_eq l_L_law_1113 1116 rfl (fun q1 => ?_) (fun q1 => ?_)
  · replace h := h.1 q1
    refine nw_iload l_L_law_1118 1120 rfl rfl ?_
    refine nw_if_ne l_L_law_1120 1123 rfl (fun q2 => ?_) (fun q2 => ?_)
    · replace h := h.1 q2
      refine nw_goto l_L_law_1142 ?_
      refine nw_drop (ls' := [some (.inr (.inl (some 1000000))), some (.inr (.inl (some 0))), some (.inr (.inl (some 303))), some (.inr (.inl (some 314))), some (.inr (.inl (some 315))), some (.inl x5), none, none, none]) ⟨rfl, ⟨rfl, ⟨rfl, ⟨rfl, ⟨rfl, ⟨rfl, ⟨True.intro, ⟨True.intro, ⟨True.intro, True.intro⟩⟩⟩⟩⟩⟩⟩⟩⟩ ?_
      exact h
    · replace h := h.2 q2
      refine nw_aload_n l_L_law_1123 1124 rfl rfl ?_
      refine nw_iconst (len := 0) l_L_law_1124 1125 rfl c_0 ?_
      refine nw_lald l_L_law_1125 1126 rfl k_314 ⟨by decide, by decide⟩ (v := L 314 0) rfl ?_
      refine nw_iload l_L_law_1126 1128 rfl rfl ?_
      refine nw_if_eq l_L_law_1128 1131 rfl (fun q3 => ?_) (fun q3 => ?_)
      · replace h := h.1 q3
        refine nw_lconst l_L_law_1135 1136 rfl (v := 0) ⟨by decide, by decide, by decide⟩ ?_
        refine nw_lcmp l_L_law_1136 1137 rfl ?_
        refine nw_if_eq l_L_law_1137 1140 rfl (fun q4 => ?_) (fun q4 => ?_)
        · replace h := h.1 q4
          refine nw_goto l_L_law_1142 ?_
          refine nw_drop (ls' := [some (.inr (.inl (some 1000000))), some (.inr (.inl (some 0))), some (.inr (.inl (some 303))), some (.inr (.inl (some 314))), some (.inr (.inl (some 315))), some (.inl x5), none, none, none]) ⟨rfl, ⟨rfl, ⟨rfl, ⟨rfl, ⟨rfl, ⟨rfl, ⟨True.intro, ⟨True.intro, ⟨True.intro, True.intro⟩⟩⟩⟩⟩⟩⟩⟩⟩ ?_
          exact h
        · replace h := h.2 q4
          refine nw_iconst (len := 0) l_L_law_1140 1141 rfl c_0 ?_
          refine nw_ireturnZ l_L_law_1141 rfl (Or.inl rfl) ?_
          exact h
      · replace h := h.2 q3
        refine nw_lconst l_L_law_1131 1132 rfl (v := 1) ⟨by decide, by decide, by decide⟩ ?_
        refine nw_goto l_L_law_1132 ?_
        refine nw_lcmp l_L_law_1136 1137 rfl ?_
        refine nw_if_eq l_L_law_1137 1140 rfl (fun q5 => ?_) (fun q5 => ?_)
        · replace h := h.1 q5
          refine nw_goto l_L_law_1142 ?_
          refine nw_drop (ls' := [some (.inr (.inl (some 1000000))), some (.inr (.inl (some 0))), some (.inr (.inl (some 303))), some (.inr (.inl (some 314))), some (.inr (.inl (some 315))), some (.inl x5), none, none, none]) ⟨rfl, ⟨rfl, ⟨rfl, ⟨rfl, ⟨rfl, ⟨rfl, ⟨True.intro, ⟨True.intro, ⟨True.intro, True.intro⟩⟩⟩⟩⟩⟩⟩⟩⟩ ?_
          exact h
        · replace h := h.2 q5
          refine nw_iconst (len := 0) l_L_law_1140 1141 rfl c_0 ?_
          refine nw_ireturnZ l_L_law_1141 rfl (Or.inl rfl) ?_
          exact h
  · replace h := h.2 q1
    refine nw_iconst (len := 0) l_L_law_1116 1117 rfl c_0 ?_
    refine nw_ireturnZ l_L_law_1117 rfl (Or.inl rfl) ?_
    exact h
theorem b_L_law_1168 {x5 : Int} {x6 : Int} {y0 : Int} (hD : 18 ≤ D) (h : ((J 303 13 = x6 → ((¬ x6 = 0 → NW sc d_L_law D (3300, [some (.inr (.inl (some 1000000))), some (.inr (.inl (some 0))), some (.inr (.inl (some 303))), some (.inr (.inl (some 314))), some (.inr (.inl (some 315))), some (.inl x5), none, none, none], [], (J, L, W), c, sl) Qr Qx) ∧ (x6 = 0 → ((nw_cmp3 (L 314 0) y0 = 0 → NW sc d_L_law D (3300, [some (.inr (.inl (some 1000000))), some (.inr (.inl (some 0))), some (.inr (.inl (some 303))), some (.inr (.inl (some 314))), some (.inr (.inl (some 315))), some (.inl x5), none, none, none], [], (J, L, W), c, sl) Qr Qx) ∧ (¬ nw_cmp3 (L 314 0) y0 = 0 → Qr (some (.inl 0)) (J, L, W)))))) ∧ (¬ J 303 13 = x6 → Qr (some (.inl 0)) (J, L, W)))) :
    NW sc d_L_law D (1168, [some (.inr (.inl (some 1000000))), some (.inr (.inl (some 0))), some (.inr (.inl (some 303))), some (.inr (.inl (some 314))), some (.inr (.inl (some 315))), some (.inl x5), some (.inl x6), none, none], [.inl y0], (J, L, W), c, sl) Qr Qx := by
  refine nw_istore l_L_law_1168 1170 rfl rfl (ls' := [some (.inr (.inl (some 1000000))), some (.inr (.inl (some 0))), some (.inr (.inl (some 303))), some (.inr (.inl (some 314))), some (.inr (.inl (some 315))), some (.inl x5), some (.inl x6), some (.inl y0), none]) rfl ?_
  refine nw_aload_n l_L_law_1170 1171 rfl rfl ?_
  refine nw_call0 0 303 l_L_law_1171 rfl rfl g_X12_thrown (Nat.lt_of_lt_of_le (by decide) hD) rfl (Or.inl ⟨_, rfl, k_303⟩) (ls' := [some (.inr (.inl (some 303)))]) rfl (st' := []) rfl 1174 rfl ?_
  refine nw_aload_n l_X12_thrown_0 1 rfl rfl ?_
  refine nw_getI l_X12_thrown_1 4 rfl k_303 (v := J 303 13) rfl ?_
  refine nw_ireturn l_X12_thrown_4 rfl ?_
  refine nw_iload l_L_law_1174 1176 rfl rfl ?_
  refine nw_ic_eq l_L_law_1176 1179 rfl (fun q1 => ?_) (fun q1 => ?_)
  · replace h := h.1 q1
    refine nw_iload l_L_law_1181 1183 rfl rfl ?_
    refine nw_if_ne l_L_law_1183 1186 rfl (fun q2 => ?_) (fun q2 => ?_)
    · replace h := h.1 q2
      refine nw_goto l_L_law_1198 ?_
      refine nw_drop (ls' := [some (.inr (.inl (some 1000000))), some (.inr (.inl (some 0))), some (.inr (.inl (some 303))), some (.inr (.inl (some 314))), some (.inr (.inl (some 315))), some (.inl x5), none, none, none]) ⟨rfl, ⟨rfl, ⟨rfl, ⟨rfl, ⟨rfl, ⟨rfl, ⟨True.intro, ⟨True.intro, ⟨True.intro, True.intro⟩⟩⟩⟩⟩⟩⟩⟩⟩ ?_
      exact h
    · replace h := h.2 q2
      refine nw_aload_n l_L_law_1186 1187 rfl rfl ?_
      refine nw_iconst (len := 0) l_L_law_1187 1188 rfl c_0 ?_
      refine nw_lald l_L_law_1188 1189 rfl k_314 ⟨by decide, by decide⟩ (v := L 314 0) rfl ?_
      refine nw_iload l_L_law_1189 1191 rfl rfl ?_
      refine nw_i2l l_L_law_1191 1192 rfl ?_
      refine nw_lcmp l_L_law_1192 1193 rfl ?_
      refine nw_if_eq l_L_law_1193 1196 rfl (fun q3 => ?_) (fun q3 => ?_)
      · replace h := h.1 q3
        refine nw_goto l_L_law_1198 ?_
        refine nw_drop (ls' := [some (.inr (.inl (some 1000000))), some (.inr (.inl (some 0))), some (.inr (.inl (some 303))), some (.inr (.inl (some 314))), some (.inr (.inl (some 315))), some (.inl x5), none, none, none]) ⟨rfl, ⟨rfl, ⟨rfl, ⟨rfl, ⟨rfl, ⟨rfl, ⟨True.intro, ⟨True.intro, ⟨True.intro, True.intro⟩⟩⟩⟩⟩⟩⟩⟩⟩ ?_
        exact h
      · replace h := h.2 q3
        refine nw_iconst (len := 0) l_L_law_1196 1197 rfl c_0 ?_
        refine nw_ireturnZ l_L_law_1197 rfl (Or.inl rfl) ?_
        exact h
  · replace h := h.2 q1
    refine nw_iconst (len := 0) l_L_law_1179 1180 rfl c_0 ?_
    refine nw_ireturnZ l_L_law_1180 rfl (Or.inl rfl) ?_
    exact h
theorem b_L_law_1224 {x5 : Int} {x6 : Int} {y0 : Int} (hD : 18 ≤ D) (h : ((J 303 13 = x6 → ((¬ x6 = 0 → NW sc d_L_law D (3300, [some (.inr (.inl (some 1000000))), some (.inr (.inl (some 0))), some (.inr (.inl (some 303))), some (.inr (.inl (some 314))), some (.inr (.inl (some 315))), some (.inl x5), none, none, none], [], (J, L, W), c, sl) Qr Qx) ∧ (x6 = 0 → ((nw_cmp3 (L 314 0) y0 = 0 → NW sc d_L_law D (3300, [some (.inr (.inl (some 1000000))), some (.inr (.inl (some 0))), some (.inr (.inl (some 303))), some (.inr (.inl (some 314))), some (.inr (.inl (some 315))), some (.inl x5), none, none, none], [], (J, L, W), c, sl) Qr Qx) ∧ (¬ nw_cmp3 (L 314 0) y0 = 0 → Qr (some (.inl 0)) (J, L, W)))))) ∧ (¬ J 303 13 = x6 → Qr (some (.inl 0)) (J, L, W)))) :
    NW sc d_L_law D (1224, [some (.inr (.inl (some 1000000))), some (.inr (.inl (some 0))), some (.inr (.inl (some 303))), some (.inr (.inl (some 314))), some (.inr (.inl (some 315))), some (.inl x5), some (.inl x6), none, none], [.inl y0], (J, L, W), c, sl) Qr Qx := by
  refine nw_istore l_L_law_1224 1226 rfl rfl (ls' := [some (.inr (.inl (some 1000000))), some (.inr (.inl (some 0))), some (.inr (.inl (some 303))), some (.inr (.inl (some 314))), some (.inr (.inl (some 315))), some (.inl x5), some (.inl x6), some (.inl y0), none]) rfl ?_
  refine nw_aload_n l_L_law_1226 1227 rfl rfl ?_
  refine nw_call0 0 303 l_L_law_1227 rfl rfl g_X12_thrown (Nat.lt_of_lt_of_le (by decide) hD) rfl (Or.inl ⟨_, rfl, k_303⟩) (ls' := [some (.inr (.inl (some 303)))]) rfl (st' := []) rfl 1230 rfl ?_
  refine nw_aload_n l_X12_thrown_0 1 rfl rfl ?_
  refine nw_getI l_X12_thrown_1 4 rfl k_303 (v := J 303 13) rfl ?_
  refine nw_ireturn l_X12_thrown_4 rfl ?_
  refine nw_iload l_L_law_1230 1232 rfl rfl ?_
  refine nw_ic_eq l_L_law_1232 1235 rfl (fun q1 => ?_) (fun q1 => ?_)
  · replace h := h.1 q1
    refine nw_iload l_L_law_1237 1239 rfl rfl ?_
    refine nw_if_ne l_L_law_1239 1242 rfl (fun q2 => ?_) (fun q2 => ?_)
    · replace h := h.1 q2
      refine nw_goto l_L_law_1254 ?_
      refine nw_drop (ls' := [some (.inr (.inl (some 1000000))), some (.inr (.inl (some 0))), some (.inr (.inl (some 303))), some (.inr (.inl (some 314))), some (.inr (.inl (some 315))), some (.inl x5), none, none, none]) ⟨rfl, ⟨rfl, ⟨rfl, ⟨rfl, ⟨rfl, ⟨rfl, ⟨True.intro, ⟨True.intro, ⟨True.intro, True.intro⟩⟩⟩⟩⟩⟩⟩⟩⟩ ?_
      exact h
    · replace h := h.2 q2
      refine nw_aload_n l_L_law_1242 1243 rfl rfl ?_
      refine nw_iconst (len := 0) l_L_law_1243 1244 rfl c_0 ?_
      refine nw_lald l_L_law_1244 1245 rfl k_314 ⟨by decide, by decide⟩ (v := L 314 0) rfl ?_
      refine nw_iload l_L_law_1245 1247 rfl rfl ?_
      refine nw_i2l l_L_law_1247 1248 rfl ?_
      refine nw_lcmp l_L_law_1248 1249 rfl ?_
      refine nw_if_eq l_L_law_1249 1252 rfl (fun q3 => ?_) (fun q3 => ?_)
      · replace h := h.1 q3
        refine nw_goto l_L_law_1254 ?_
        refine nw_drop (ls' := [some (.inr (.inl (some 1000000))), some (.inr (.inl (some 0))), some (.inr (.inl (some 303))), some (.inr (.inl (some 314))), some (.inr (.inl (some 315))), some (.inl x5), none, none, none]) ⟨rfl, ⟨rfl, ⟨rfl, ⟨rfl, ⟨rfl, ⟨rfl, ⟨True.intro, ⟨True.intro, ⟨True.intro, True.intro⟩⟩⟩⟩⟩⟩⟩⟩⟩ ?_
        exact h
      · replace h := h.2 q3
        refine nw_iconst (len := 0) l_L_law_1252 1253 rfl c_0 ?_
        refine nw_ireturnZ l_L_law_1253 rfl (Or.inl rfl) ?_
        exact h
  · replace h := h.2 q1
    refine nw_iconst (len := 0) l_L_law_1235 1236 rfl c_0 ?_
    refine nw_ireturnZ l_L_law_1236 rfl (Or.inl rfl) ?_
    exact h
theorem b_L_law_1280 {x5 : Int} {x6 : Int} {y0 : Int} (hD : 18 ≤ D) (h : ((J 303 13 = x6 → ((¬ x6 = 0 → NW sc d_L_law D (3300, [some (.inr (.inl (some 1000000))), some (.inr (.inl (some 0))), some (.inr (.inl (some 303))), some (.inr (.inl (some 314))), some (.inr (.inl (some 315))), some (.inl x5), none, none, none], [], (J, L, W), c, sl) Qr Qx) ∧ (x6 = 0 → ((nw_cmp3 (L 314 0) y0 = 0 → NW sc d_L_law D (3300, [some (.inr (.inl (some 1000000))), some (.inr (.inl (some 0))), some (.inr (.inl (some 303))), some (.inr (.inl (some 314))), some (.inr (.inl (some 315))), some (.inl x5), none, none, none], [], (J, L, W), c, sl) Qr Qx) ∧ (¬ nw_cmp3 (L 314 0) y0 = 0 → Qr (some (.inl 0)) (J, L, W)))))) ∧ (¬ J 303 13 = x6 → Qr (some (.inl 0)) (J, L, W)))) :
    NW sc d_L_law D (1280, [some (.inr (.inl (some 1000000))), some (.inr (.inl (some 0))), some (.inr (.inl (some 303))), some (.inr (.inl (some 314))), some (.inr (.inl (some 315))), some (.inl x5), some (.inl x6), none, none], [.inl y0], (J, L, W), c, sl) Qr Qx := by
  refine nw_istore l_L_law_1280 1282 rfl rfl (ls' := [some (.inr (.inl (some 1000000))), some (.inr (.inl (some 0))), some (.inr (.inl (some 303))), some (.inr (.inl (some 314))), some (.inr (.inl (some 315))), some (.inl x5), some (.inl x6), some (.inl y0), none]) rfl ?_
  refine nw_aload_n l_L_law_1282 1283 rfl rfl ?_
  refine nw_call0 0 303 l_L_law_1283 rfl rfl g_X12_thrown (Nat.lt_of_lt_of_le (by decide) hD) rfl (Or.inl ⟨_, rfl, k_303⟩) (ls' := [some (.inr (.inl (some 303)))]) rfl (st' := []) rfl 1286 rfl ?_
  refine nw_aload_n l_X12_thrown_0 1 rfl rfl ?_
  refine nw_getI l_X12_thrown_1 4 rfl k_303 (v := J 303 13) rfl ?_
  refine nw_ireturn l_X12_thrown_4 rfl ?_
  refine nw_iload l_L_law_1286 1288 rfl rfl ?_
  refine nw_ic_eq l_L_law_1288 1291 rfl (fun q1 => ?_) (fun q1 => ?_)
  · replace h := h.1 q1
    refine nw_iload l_L_law_1293 1295 rfl rfl ?_
    refine nw_if_ne l_L_law_1295 1298 rfl (fun q2 => ?_) (fun q2 => ?_)
    · replace h := h.1 q2
      refine nw_goto l_L_law_1310 ?_
      refine nw_drop (ls' := [some (.inr (.inl (some 1000000))), some (.inr (.inl (some 0))), some (.inr (.inl (some 303))), some (.inr (.inl (some 314))), some (.inr (.inl (some 315))), some (.inl x5), none, none, none]) ⟨rfl, ⟨rfl, ⟨rfl, ⟨rfl, ⟨rfl, ⟨rfl, ⟨True.intro, ⟨True.intro, ⟨True.intro, True.intro⟩⟩⟩⟩⟩⟩⟩⟩⟩ ?_
      exact h
    · replace h := h.2 q2
      refine nw_aload_n l_L_law_1298 1299 rfl rfl ?_
      refine nw_iconst (len := 0) l_L_law_1299 1300 rfl c_0 ?_
      refine nw_lald l_L_law_1300 1301 rfl k_314 ⟨by decide, by decide⟩ (v := L 314 0) rfl ?_
      refine nw_iload l_L_law_1301 1303 rfl rfl ?_
      refine nw_i2l l_L_law_1303 1304 rfl ?_
      refine nw_lcmp l_L_law_1304 1305 rfl ?_
      refine nw_if_eq l_L_law_1305 1308 rfl (fun q3 => ?_) (fun q3 => ?_)
      · replace h := h.1 q3
        refine nw_goto l_L_law_1310 ?_
        refine nw_drop (ls' := [some (.inr (.inl (some 1000000))), some (.inr (.inl (some 0))), some (.inr (.inl (some 303))), some (.inr (.inl (some 314))), some (.inr (.inl (some 315))), some (.inl x5), none, none, none]) ⟨rfl, ⟨rfl, ⟨rfl, ⟨rfl, ⟨rfl, ⟨rfl, ⟨True.intro, ⟨True.intro, ⟨True.intro, True.intro⟩⟩⟩⟩⟩⟩⟩⟩⟩ ?_
        exact h
      · replace h := h.2 q3
        refine nw_iconst (len := 0) l_L_law_1308 1309 rfl c_0 ?_
        refine nw_ireturnZ l_L_law_1309 rfl (Or.inl rfl) ?_
        exact h
  · replace h := h.2 q1
    refine nw_iconst (len := 0) l_L_law_1291 1292 rfl c_0 ?_
    refine nw_ireturnZ l_L_law_1292 rfl (Or.inl rfl) ?_
    exact h
theorem b_L_law_1336 {x5 : Int} {x6 : Int} {y0 : Int} (hD : 18 ≤ D) (h : ((J 303 13 = x6 → ((¬ x6 = 0 → NW sc d_L_law D (3300, [some (.inr (.inl (some 1000000))), some (.inr (.inl (some 0))), some (.inr (.inl (some 303))), some (.inr (.inl (some 314))), some (.inr (.inl (some 315))), some (.inl x5), none, none, none], [], (J, L, W), c, sl) Qr Qx) ∧ (x6 = 0 → ((y0 = 0 → ((nw_cmp3 (L 314 0) 0 = 0 → NW sc d_L_law D (3300, [some (.inr (.inl (some 1000000))), some (.inr (.inl (some 0))), some (.inr (.inl (some 303))), some (.inr (.inl (some 314))), some (.inr (.inl (some 315))), some (.inl x5), none, none, none], [], (J, L, W), c, sl) Qr Qx) ∧ (¬ nw_cmp3 (L 314 0) 0 = 0 → Qr (some (.inl 0)) (J, L, W)))) ∧ (¬ y0 = 0 → ((nw_cmp3 (L 314 0) 1 = 0 → NW sc d_L_law D (3300, [some (.inr (.inl (some 1000000))), some (.inr (.inl (some 0))), some (.inr (.inl (some 303))), some (.inr (.inl (some 314))), some (.inr (.inl (some 315))), some (.inl x5), none, none, none], [], (J, L, W), c, sl) Qr Qx) ∧ (¬ nw_cmp3 (L 314 0) 1 = 0 → Qr (some (.inl 0)) (J, L, W)))))))) ∧ (¬ J 303 13 = x6 → Qr (some (.inl 0)) (J, L, W)))) :
    NW sc d_L_law D (1336, [some (.inr (.inl (some 1000000))), some (.inr (.inl (some 0))), some (.inr (.inl (some 303))), some (.inr (.inl (some 314))), some (.inr (.inl (some 315))), some (.inl x5), some (.inl x6), none, none], [.inl y0], (J, L, W), c, sl) Qr Qx := by
  refine nw_istore l_L_law_1336 1338 rfl rfl (ls' := [some (.inr (.inl (some 1000000))), some (.inr (.inl (some 0))), some (.inr (.inl (some 303))), some (.inr (.inl (some 314))), some (.inr (.inl (some 315))), some (.inl x5), some (.inl x6), some (.inl y0), none]) rfl ?_
  refine nw_aload_n l_L_law_1338 1339 rfl rfl ?_
  refine nw_call0 0 303 l_L_law_1339 rfl rfl g_X12_thrown (Nat.lt_of_lt_of_le (by decide) hD) rfl (Or.inl ⟨_, rfl, k_303⟩) (ls' := [some (.inr (.inl (some 303)))]) rfl (st' := []) rfl 1342 rfl ?_
  refine nw_aload_n l_X12_thrown_0 1 rfl rfl ?_
  refine nw_getI l_X12_thrown_1 4 rfl k_303 (v := J 303 13) rfl ?_
  refine nw_ireturn l_X12_thrown_4 rfl ?_
  refine nw_iload l_L_law_1342 1344 rfl rfl ?_
  refine nw_ic_eq l_L_law_1344 1347 rfl (fun q1 => ?_) (fun q1 => ?_)
  · replace h := h.1 q1
    refine nw_iload l_L_law_1349 1351 rfl rfl ?_
    refine nw_if_ne l_L_law_1351 1354 rfl (fun q2 => ?_) (fun q2 => ?_)
    · replace h := h.1 q2
      refine nw_goto l_L_law_1373 ?_
      refine nw_drop (ls' := [some (.inr (.inl (some 1000000))), some (.inr (.inl (some 0))), some (.inr (.inl (some 303))), some (.inr (.inl (some 314))), some (.inr (.inl (some 315))), some (.inl x5), none, none, none]) ⟨rfl, ⟨rfl, ⟨rfl, ⟨rfl, ⟨rfl, ⟨rfl, ⟨True.intro, ⟨True.intro, ⟨True.intro, True.intro⟩⟩⟩⟩⟩⟩⟩⟩⟩ ?_
      exact h
    · replace h := h.2 q2
      refine nw_aload_n l_L_law_1354 1355 rfl rfl ?_
      refine nw_iconst (len := 0) l_L_law_1355 1356 rfl c_0 ?_
      refine nw_lald l_L_law_1356 1357 rfl k_314 ⟨by decide, by decide⟩ (v := L 314 0) rfl ?_
      refine nw_iload l_L_law_1357 1359 rfl rfl ?_
      refine nw_if_eq l_L_law_1359 1362 rfl (fun q3 => ?_) (fun q3 => ?_)
      · replace h := h.1 q3
        refine nw_lconst l_L_law_1366 1367 rfl (v := 0) ⟨by decide, by decide, by decide⟩ ?_
        refine nw_lcmp l_L_law_1367 1368 rfl ?_
        refine nw_if_eq l_L_law_1368 1371 rfl (fun q4 => ?_) (fun q4 => ?_)
        · replace h := h.1 q4
          refine nw_goto l_L_law_1373 ?_
          refine nw_drop (ls' := [some (.inr (.inl (some 1000000))), some (.inr (.inl (some 0))), some (.inr (.inl (some 303))), some (.inr (.inl (some 314))), some (.inr (.inl (some 315))), some (.inl x5), none, none, none]) ⟨rfl, ⟨rfl, ⟨rfl, ⟨rfl, ⟨rfl, ⟨rfl, ⟨True.intro, ⟨True.intro, ⟨True.intro, True.intro⟩⟩⟩⟩⟩⟩⟩⟩⟩ ?_
          exact h
        · replace h := h.2 q4
          refine nw_iconst (len := 0) l_L_law_1371 1372 rfl c_0 ?_
          refine nw_ireturnZ l_L_law_1372 rfl (Or.inl rfl) ?_
          exact h
      · replace h := h.2 q3
        refine nw_lconst l_L_law_1362 1363 rfl (v := 1) ⟨by decide, by decide, by decide⟩ ?_
        refine nw_goto l_L_law_1363 ?_
        refine nw_lcmp l_L_law_1367 1368 rfl ?_
        refine nw_if_eq l_L_law_1368 1371 rfl (fun q5 => ?_) (fun q5 => ?_)
        · replace h := h.1 q5
          refine nw_goto l_L_law_1373 ?_
          refine nw_drop (ls' := [some (.inr (.inl (some 1000000))), some (.inr (.inl (some 0))), some (.inr (.inl (some 303))), some (.inr (.inl (some 314))), some (.inr (.inl (some 315))), some (.inl x5), none, none, none]) ⟨rfl, ⟨rfl, ⟨rfl, ⟨rfl, ⟨rfl, ⟨rfl, ⟨True.intro, ⟨True.intro, ⟨True.intro, True.intro⟩⟩⟩⟩⟩⟩⟩⟩⟩ ?_
          exact h
        · replace h := h.2 q5
          refine nw_iconst (len := 0) l_L_law_1371 1372 rfl c_0 ?_
          refine nw_ireturnZ l_L_law_1372 rfl (Or.inl rfl) ?_
          exact h
  · replace h := h.2 q1
    refine nw_iconst (len := 0) l_L_law_1347 1348 rfl c_0 ?_
    refine nw_ireturnZ l_L_law_1348 rfl (Or.inl rfl) ?_
    exact h
theorem b_L_law_1399 {x5 : Int} {x6 : Int} {y0 : Int} (hD : 18 ≤ D) (h : ((J 303 13 = x6 → ((¬ x6 = 0 → NW sc d_L_law D (3300, [some (.inr (.inl (some 1000000))), some (.inr (.inl (some 0))), some (.inr (.inl (some 303))), some (.inr (.inl (some 314))), some (.inr (.inl (some 315))), some (.inl x5), none, none, none], [], (J, L, W), c, sl) Qr Qx) ∧ (x6 = 0 → ((nw_cmp3 (L 314 0) y0 = 0 → NW sc d_L_law D (3300, [some (.inr (.inl (some 1000000))), some (.inr (.inl (some 0))), some (.inr (.inl (some 303))), some (.inr (.inl (some 314))), some (.inr (.inl (some 315))), some (.inl x5), none, none, none], [], (J, L, W), c, sl) Qr Qx) ∧ (¬ nw_cmp3 (L 314 0) y0 = 0 → Qr (some (.inl 0)) (J, L, W)))))) ∧ (¬ J 303 13 = x6 → Qr (some (.inl 0)) (J, L, W)))) :
    NW sc d_L_law D (1399, [some (.inr (.inl (some 1000000))), some (.inr (.inl (some 0))), some (.inr (.inl (some 303))), some (.inr (.inl (some 314))), some (.inr (.inl (some 315))), some (.inl x5), some (.inl x6), none, none], [.inl y0], (J, L, W), c, sl) Qr Qx := by
  refine nw_istore l_L_law_1399 1401 rfl rfl (ls' := [some (.inr (.inl (some 1000000))), some (.inr (.inl (some 0))), some (.inr (.inl (some 303))), some (.inr (.inl (some 314))), some (.inr (.inl (some 315))), some (.inl x5), some (.inl x6), some (.inl y0), none]) rfl ?_
  refine nw_aload_n l_L_law_1401 1402 rfl rfl ?_
  refine nw_call0 0 303 l_L_law_1402 rfl rfl g_X12_thrown (Nat.lt_of_lt_of_le (by decide) hD) rfl (Or.inl ⟨_, rfl, k_303⟩) (ls' := [some (.inr (.inl (some 303)))]) rfl (st' := []) rfl 1405 rfl ?_
  refine nw_aload_n l_X12_thrown_0 1 rfl rfl ?_
  refine nw_getI l_X12_thrown_1 4 rfl k_303 (v := J 303 13) rfl ?_
  refine nw_ireturn l_X12_thrown_4 rfl ?_
  refine nw_iload l_L_law_1405 1407 rfl rfl ?_
  refine nw_ic_eq l_L_law_1407 1410 rfl (fun q1 => ?_) (fun q1 => ?_)
  · replace h := h.1 q1
    refine nw_iload l_L_law_1412 1414 rfl rfl ?_
    refine nw_if_ne l_L_law_1414 1417 rfl (fun q2 => ?_) (fun q2 => ?_)
    · replace h := h.1 q2
      refine nw_goto l_L_law_1429 ?_
      refine nw_drop (ls' := [some (.inr (.inl (some 1000000))), some (.inr (.inl (some 0))), some (.inr (.inl (some 303))), some (.inr (.inl (some 314))), some (.inr (.inl (some 315))), some (.inl x5), none, none, none]) ⟨rfl, ⟨rfl, ⟨rfl, ⟨rfl, ⟨rfl, ⟨rfl, ⟨True.intro, ⟨True.intro, ⟨True.intro, True.intro⟩⟩⟩⟩⟩⟩⟩⟩⟩ ?_
      exact h
    · replace h := h.2 q2
      refine nw_aload_n l_L_law_1417 1418 rfl rfl ?_
      refine nw_iconst (len := 0) l_L_law_1418 1419 rfl c_0 ?_
      refine nw_lald l_L_law_1419 1420 rfl k_314 ⟨by decide, by decide⟩ (v := L 314 0) rfl ?_
      refine nw_iload l_L_law_1420 1422 rfl rfl ?_
      refine nw_i2l l_L_law_1422 1423 rfl ?_
      refine nw_lcmp l_L_law_1423 1424 rfl ?_
      refine nw_if_eq l_L_law_1424 1427 rfl (fun q3 => ?_) (fun q3 => ?_)
      · replace h := h.1 q3
        refine nw_goto l_L_law_1429 ?_
        refine nw_drop (ls' := [some (.inr (.inl (some 1000000))), some (.inr (.inl (some 0))), some (.inr (.inl (some 303))), some (.inr (.inl (some 314))), some (.inr (.inl (some 315))), some (.inl x5), none, none, none]) ⟨rfl, ⟨rfl, ⟨rfl, ⟨rfl, ⟨rfl, ⟨rfl, ⟨True.intro, ⟨True.intro, ⟨True.intro, True.intro⟩⟩⟩⟩⟩⟩⟩⟩⟩ ?_
        exact h
      · replace h := h.2 q3
        refine nw_iconst (len := 0) l_L_law_1427 1428 rfl c_0 ?_
        refine nw_ireturnZ l_L_law_1428 rfl (Or.inl rfl) ?_
        exact h
  · replace h := h.2 q1
    refine nw_iconst (len := 0) l_L_law_1410 1411 rfl c_0 ?_
    refine nw_ireturnZ l_L_law_1411 rfl (Or.inl rfl) ?_
    exact h
theorem b_L_law_1467 {x5 : Int} {x6 : Int} {y0 : Int} (hD : 18 ≤ D) (h : ((J 303 13 = x6 → ((¬ x6 = 0 → NW sc d_L_law D (3300, [some (.inr (.inl (some 1000000))), some (.inr (.inl (some 0))), some (.inr (.inl (some 303))), some (.inr (.inl (some 314))), some (.inr (.inl (some 315))), some (.inl x5), none, none, none], [], (J, L, W), c, sl) Qr Qx) ∧ (x6 = 0 → ((nw_cmp3 (L 314 0) y0 = 0 → NW sc d_L_law D (3300, [some (.inr (.inl (some 1000000))), some (.inr (.inl (some 0))), some (.inr (.inl (some 303))), some (.inr (.inl (some 314))), some (.inr (.inl (some 315))), some (.inl x5), none, none, none], [], (J, L, W), c, sl) Qr Qx) ∧ (¬ nw_cmp3 (L 314 0) y0 = 0 → Qr (some (.inl 0)) (J, L, W)))))) ∧ (¬ J 303 13 = x6 → Qr (some (.inl 0)) (J, L, W)))) :
    NW sc d_L_law D (1467, [some (.inr (.inl (some 1000000))), some (.inr (.inl (some 0))), some (.inr (.inl (some 303))), some (.inr (.inl (some 314))), some (.inr (.inl (some 315))), some (.inl x5), some (.inl x6), none, none], [.inl y0], (J, L, W), c, sl) Qr Qx := by
  refine nw_istore l_L_law_1467 1469 rfl rfl (ls' := [some (.inr (.inl (some 1000000))), some (.inr (.inl (some 0))), some (.inr (.inl (some 303))), some (.inr (.inl (some 314))), some (.inr (.inl (some 315))), some (.inl x5), some (.inl x6), some (.inl y0), none]) rfl ?_
  refine nw_aload_n l_L_law_1469 1470 rfl rfl ?_
  refine nw_call0 0 303 l_L_law_1470 rfl rfl g_X12_thrown (Nat.lt_of_lt_of_le (by decide) hD) rfl (Or.inl ⟨_, rfl, k_303⟩) (ls' := [some (.inr (.inl (some 303)))]) rfl (st' := []) rfl 1473 rfl ?_
  refine nw_aload_n l_X12_thrown_0 1 rfl rfl ?_
  refine nw_getI l_X12_thrown_1 4 rfl k_303 (v := J 303 13) rfl ?_
  refine nw_ireturn l_X12_thrown_4 rfl ?_
  refine nw_iload l_L_law_1473 1475 rfl rfl ?_
  refine nw_ic_eq l_L_law_1475 1478 rfl (fun q1 => ?_) (fun q1 => ?_)
  · replace h := h.1 q1
    refine nw_iload l_L_law_1480 1482 rfl rfl ?_
    refine nw_if_ne l_L_law_1482 1485 rfl (fun q2 => ?_) (fun q2 => ?_)
    · replace h := h.1 q2
      refine nw_goto l_L_law_1497 ?_
      refine nw_drop (ls' := [some (.inr (.inl (some 1000000))), some (.inr (.inl (some 0))), some (.inr (.inl (some 303))), some (.inr (.inl (some 314))), some (.inr (.inl (some 315))), some (.inl x5), none, none, none]) ⟨rfl, ⟨rfl, ⟨rfl, ⟨rfl, ⟨rfl, ⟨rfl, ⟨True.intro, ⟨True.intro, ⟨True.intro, True.intro⟩⟩⟩⟩⟩⟩⟩⟩⟩ ?_
      exact h
    · replace h := h.2 q2
      refine nw_aload_n l_L_law_1485 1486 rfl rfl ?_
      refine nw_iconst (len := 0) l_L_law_1486 1487 rfl c_0 ?_
      refine nw_lald l_L_law_1487 1488 rfl k_314 ⟨by decide, by decide⟩ (v := L 314 0) rfl ?_
      refine nw_iload l_L_law_1488 1490 rfl rfl ?_
      refine nw_i2l l_L_law_1490 1491 rfl ?_
      refine nw_lcmp l_L_law_1491 1492 rfl ?_
      refine nw_if_eq l_L_law_1492 1495 rfl (fun q3 => ?_) (fun q3 => ?_)
      · replace h := h.1 q3
        refine nw_goto l_L_law_1497 ?_
        refine nw_drop (ls' := [some (.inr (.inl (some 1000000))), some (.inr (.inl (some 0))), some (.inr (.inl (some 303))), some (.inr (.inl (some 314))), some (.inr (.inl (some 315))), some (.inl x5), none, none, none]) ⟨rfl, ⟨rfl, ⟨rfl, ⟨rfl, ⟨rfl, ⟨rfl, ⟨True.intro, ⟨True.intro, ⟨True.intro, True.intro⟩⟩⟩⟩⟩⟩⟩⟩⟩ ?_
        exact h
      · replace h := h.2 q3
        refine nw_iconst (len := 0) l_L_law_1495 1496 rfl c_0 ?_
        refine nw_ireturnZ l_L_law_1496 rfl (Or.inl rfl) ?_
        exact h
  · replace h := h.2 q1
    refine nw_iconst (len := 0) l_L_law_1478 1479 rfl c_0 ?_
    refine nw_ireturnZ l_L_law_1479 rfl (Or.inl rfl) ?_
    exact h
theorem b_L_law_1535 {x5 : Int} {x6 : Int} {y0 : Int} (hD : 18 ≤ D) (h : ((J 303 13 = x6 → ((¬ x6 = 0 → NW sc d_L_law D (3300, [some (.inr (.inl (some 1000000))), some (.inr (.inl (some 0))), some (.inr (.inl (some 303))), some (.inr (.inl (some 314))), some (.inr (.inl (some 315))), some (.inl x5), none, none, none], [], (J, L, W), c, sl) Qr Qx) ∧ (x6 = 0 → ((nw_cmp3 (L 314 0) y0 = 0 → NW sc d_L_law D (3300, [some (.inr (.inl (some 1000000))), some (.inr (.inl (some 0))), some (.inr (.inl (some 303))), some (.inr (.inl (some 314))), some (.inr (.inl (some 315))), some (.inl x5), none, none, none], [], (J, L, W), c, sl) Qr Qx) ∧ (¬ nw_cmp3 (L 314 0) y0 = 0 → Qr (some (.inl 0)) (J, L, W)))))) ∧ (¬ J 303 13 = x6 → Qr (some (.inl 0)) (J, L, W)))) :
    NW sc d_L_law D (1535, [some (.inr (.inl (some 1000000))), some (.inr (.inl (some 0))), some (.inr (.inl (some 303))), some (.inr (.inl (some 314))), some (.inr (.inl (some 315))), some (.inl x5), some (.inl x6), none, none], [.inl y0], (J, L, W), c, sl) Qr Qx := by
  refine nw_istore l_L_law_1535 1537 rfl rfl (ls' := [some (.inr (.inl (some 1000000))), some (.inr (.inl (some 0))), some (.inr (.inl (some 303))), some (.inr (.inl (some 314))), some (.inr (.inl (some 315))), some (.inl x5), some (.inl x6), some (.inl y0), none]) rfl ?_
  refine nw_aload_n l_L_law_1537 1538 rfl rfl ?_
  refine nw_call0 0 303 l_L_law_1538 rfl rfl g_X12_thrown (Nat.lt_of_lt_of_le (by decide) hD) rfl (Or.inl ⟨_, rfl, k_303⟩) (ls' := [some (.inr (.inl (some 303)))]) rfl (st' := []) rfl 1541 rfl ?_
  refine nw_aload_n l_X12_thrown_0 1 rfl rfl ?_
  refine nw_getI l_X12_thrown_1 4 rfl k_303 (v := J 303 13) rfl ?_
  refine nw_ireturn l_X12_thrown_4 rfl ?_
  refine nw_iload l_L_law_1541 1543 rfl rfl ?_
  refine nw_ic_eq l_L_law_1543 1546 rfl (fun q1 => ?_) (fun q1 => ?_)
  · replace h := h.1 q1
    refine nw_iload l_L_law_1548 1550 rfl rfl ?_
    refine nw_if_ne l_L_law_1550 1553 rfl (fun q2 => ?_) (fun q2 => ?_)
    · replace h := h.1 q2
      refine nw_goto l_L_law_1565 ?_
      refine nw_drop (ls' := [some (.inr (.inl (some 1000000))), some (.inr (.inl (some 0))), some (.inr (.inl (some 303))), some (.inr (.inl (some 314))), some (.inr (.inl (some 315))), some (.inl x5), none, none, none]) ⟨rfl, ⟨rfl, ⟨rfl, ⟨rfl, ⟨rfl, ⟨rfl, ⟨True.intro, ⟨True.intro, ⟨True.intro, True.intro⟩⟩⟩⟩⟩⟩⟩⟩⟩ ?_
      exact h
    · replace h := h.2 q2
      refine nw_aload_n l_L_law_1553 1554 rfl rfl ?_
      refine nw_iconst (len := 0) l_L_law_1554 1555 rfl c_0 ?_
      refine nw_lald l_L_law_1555 1556 rfl k_314 ⟨by decide, by decide⟩ (v := L 314 0) rfl ?_
      refine nw_iload l_L_law_1556 1558 rfl rfl ?_
      refine nw_i2l l_L_law_1558 1559 rfl ?_
      refine nw_lcmp l_L_law_1559 1560 rfl ?_
      refine nw_if_eq l_L_law_1560 1563 rfl (fun q3 => ?_) (fun q3 => ?_)
      · replace h := h.1 q3
        refine nw_goto l_L_law_1565 ?_
        refine nw_drop (ls' := [some (.inr (.inl (some 1000000))), some (.inr (.inl (some 0))), some (.inr (.inl (some 303))), some (.inr (.inl (some 314))), some (.inr (.inl (some 315))), some (.inl x5), none, none, none]) ⟨rfl, ⟨rfl, ⟨rfl, ⟨rfl, ⟨rfl, ⟨rfl, ⟨True.intro, ⟨True.intro, ⟨True.intro, True.intro⟩⟩⟩⟩⟩⟩⟩⟩⟩ ?_
        exact h
      · replace h := h.2 q3
        refine nw_iconst (len := 0) l_L_law_1563 1564 rfl c_0 ?_
        refine nw_ireturnZ l_L_law_1564 rfl (Or.inl rfl) ?_
        exact h
  · replace h := h.2 q1
    refine nw_iconst (len := 0) l_L_law_1546 1547 rfl c_0 ?_
    refine nw_ireturnZ l_L_law_1547 rfl (Or.inl rfl) ?_
    exact h
theorem b_L_law_1627 {x5 : Int} {x6 : Int} {y0 : Int} (hD : 18 ≤ D) (h : ((J 303 13 = x6 → ((¬ x6 = 0 → NW sc d_L_law D (3300, [some (.inr (.inl (some 1000000))), some (.inr (.inl (some 0))), some (.inr (.inl (some 303))), some (.inr (.inl (some 314))), some (.inr (.inl (some 315))), some (.inl x5), none, none, none], [], (J, L, W), c, sl) Qr Qx) ∧ (x6 = 0 → ((nw_cmp3 (L 314 0) y0 = 0 → NW sc d_L_law D (3300, [some (.inr (.inl (some 1000000))), some (.inr (.inl (some 0))), some (.inr (.inl (some 303))), some (.inr (.inl (some 314))), some (.inr (.inl (some 315))), some (.inl x5), none, none, none], [], (J, L, W), c, sl) Qr Qx) ∧ (¬ nw_cmp3 (L 314 0) y0 = 0 → Qr (some (.inl 0)) (J, L, W)))))) ∧ (¬ J 303 13 = x6 → Qr (some (.inl 0)) (J, L, W)))) :
    NW sc d_L_law D (1627, [some (.inr (.inl (some 1000000))), some (.inr (.inl (some 0))), some (.inr (.inl (some 303))), some (.inr (.inl (some 314))), some (.inr (.inl (some 315))), some (.inl x5), some (.inl x6), none, none], [.inl y0], (J, L, W), c, sl) Qr Qx := by
  refine nw_istore l_L_law_1627 1629 rfl rfl (ls' := [some (.inr (.inl (some 1000000))), some (.inr (.inl (some 0))), some (.inr (.inl (some 303))), some (.inr (.inl (some 314))), some (.inr (.inl (some 315))), some (.inl x5), some (.inl x6), some (.inl y0), none]) rfl ?_
  refine nw_aload_n l_L_law_1629 1630 rfl rfl ?_
  refine nw_call0 0 303 l_L_law_1630 rfl rfl g_X12_thrown (Nat.lt_of_lt_of_le (by decide) hD) rfl (Or.inl ⟨_, rfl, k_303⟩) (ls' := [some (.inr (.inl (some 303)))]) rfl (st' := []) rfl 1633 rfl ?_
  refine nw_aload_n l_X12_thrown_0 1 rfl rfl ?_
  refine nw_getI l_X12_thrown_1 4 rfl k_303 (v := J 303 13) rfl ?_
  refine nw_ireturn l_X12_thrown_4 rfl ?_
  refine nw_iload l_L_law_1633 1635 rfl rfl ?_
  refine nw_ic_eq l_L_law_1635 1638 rfl (fun q1 => ?_) (fun q1 => ?_)
  · replace h := h.1 q1
    refine nw_iload l_L_law_1640 1642 rfl rfl ?_
    refine nw_if_ne l_L_law_1642 1645 rfl (fun q2 => ?_) (fun q2 => ?_)
    · replace h := h.1 q2
      refine nw_goto l_L_law_1657 ?_
      refine nw_drop (ls' := [some (.inr (.inl (some 1000000))), some (.inr (.inl (some 0))), some (.inr (.inl (some 303))), some (.inr (.inl (some 314))), some (.inr (.inl (some 315))), some (.inl x5), none, none, none]) ⟨rfl, ⟨rfl, ⟨rfl, ⟨rfl, ⟨rfl, ⟨rfl, ⟨True.intro, ⟨True.intro, ⟨True.intro, True.intro⟩⟩⟩⟩⟩⟩⟩⟩⟩ ?_
      exact h
    · replace h := h.2 q2
      refine nw_aload_n l_L_law_1645 1646 rfl rfl ?_
      refine nw_iconst (len := 0) l_L_law_1646 1647 rfl c_0 ?_
      refine nw_lald l_L_law_1647 1648 rfl k_314 ⟨by decide, by decide⟩ (v := L 314 0) rfl ?_
      refine nw_iload l_L_law_1648 1650 rfl rfl ?_
      refine nw_i2l l_L_law_1650 1651 rfl ?_
      refine nw_lcmp l_L_law_1651 1652 rfl ?_
      refine nw_if_eq l_L_law_1652 1655 rfl (fun q3 => ?_) (fun q3 => ?_)
      · replace h := h.1 q3
        refine nw_goto l_L_law_1657 ?_
        refine nw_drop (ls' := [some (.inr (.inl (some 1000000))), some (.inr (.inl (some 0))), some (.inr (.inl (some 303))), some (.inr (.inl (some 314))), some (.inr (.inl (some 315))), some (.inl x5), none, none, none]) ⟨rfl, ⟨rfl, ⟨rfl, ⟨rfl, ⟨rfl, ⟨rfl, ⟨True.intro, ⟨True.intro, ⟨True.intro, True.intro⟩⟩⟩⟩⟩⟩⟩⟩⟩ ?_
        exact h
      · replace h := h.2 q3
        refine nw_iconst (len := 0) l_L_law_1655 1656 rfl c_0 ?_
        refine nw_ireturnZ l_L_law_1656 rfl (Or.inl rfl) ?_
        exact h
  · replace h := h.2 q1
    refine nw_iconst (len := 0) l_L_law_1638 1639 rfl c_0 ?_
    refine nw_ireturnZ l_L_law_1639 rfl (Or.inl rfl) ?_
    exact h
theorem b_L_law_1695 {x5 : Int} {x6 : Int} {y0 : Int} (hD : 18 ≤ D) (h : ((J 303 13 = x6 → ((¬ x6 = 0 → NW sc d_L_law D (3300, [some (.inr (.inl (some 1000000))), some (.inr (.inl (some 0))), some (.inr (.inl (some 303))), some (.inr (.inl (some 314))), some (.inr (.inl (some 315))), some (.inl x5), none, none, none], [], (J, L, W), c, sl) Qr Qx) ∧ (x6 = 0 → ((nw_cmp3 (L 314 0) y0 = 0 → NW sc d_L_law D (3300, [some (.inr (.inl (some 1000000))), some (.inr (.inl (some 0))), some (.inr (.inl (some 303))), some (.inr (.inl (some 314))), some (.inr (.inl (some 315))), some (.inl x5), none, none, none], [], (J, L, W), c, sl) Qr Qx) ∧ (¬ nw_cmp3 (L 314 0) y0 = 0 → Qr (some (.inl 0)) (J, L, W)))))) ∧ (¬ J 303 13 = x6 → Qr (some (.inl 0)) (J, L, W)))) :
    NW sc d_L_law D (1695, [some (.inr (.inl (some 1000000))), some (.inr (.inl (some 0))), some (.inr (.inl (some 303))), some (.inr (.inl (some 314))), some (.inr (.inl (some 315))), some (.inl x5), some (.inl x6), none, none], [.inl y0], (J, L, W), c, sl) Qr Qx := by
  refine nw_istore l_L_law_1695 1697 rfl rfl (ls' := [some (.inr (.inl (some 1000000))), some (.inr (.inl (some 0))), some (.inr (.inl (some 303))), some (.inr (.inl (some 314))), some (.inr (.inl (some 315))), some (.inl x5), some (.inl x6), some (.inl y0), none]) rfl ?_
  refine nw_aload_n l_L_law_1697 1698 rfl rfl ?_
  refine nw_call0 0 303 l_L_law_1698 rfl rfl g_X12_thrown (Nat.lt_of_lt_of_le (by decide) hD) rfl (Or.inl ⟨_, rfl, k_303⟩) (ls' := [some (.inr (.inl (some 303)))]) rfl (st' := []) rfl 1701 rfl ?_
  refine nw_aload_n l_X12_thrown_0 1 rfl rfl ?_
  refine nw_getI l_X12_thrown_1 4 rfl k_303 (v := J 303 13) rfl ?_
  refine nw_ireturn l_X12_thrown_4 rfl ?_
  refine nw_iload l_L_law_1701 1703 rfl rfl ?_
  refine nw_ic_eq l_L_law_1703 1706 rfl (fun q1 => ?_) (fun q1 => ?_)
  · replace h := h.1 q1
    refine nw_iload l_L_law_1708 1710 rfl rfl ?_
    refine nw_if_ne l_L_law_1710 1713 rfl (fun q2 => ?_) (fun q2 => ?_)
    · replace h := h.1 q2
      refine nw_goto l_L_law_1725 ?_
      refine nw_drop (ls' := [some (.inr (.inl (some 1000000))), some (.inr (.inl (some 0))), some (.inr (.inl (some 303))), some (.inr (.inl (some 314))), some (.inr (.inl (some 315))), some (.inl x5), none, none, none]) ⟨rfl, ⟨rfl, ⟨rfl, ⟨rfl, ⟨rfl, ⟨rfl, ⟨True.intro, ⟨True.intro, ⟨True.intro, True.intro⟩⟩⟩⟩⟩⟩⟩⟩⟩ ?_
      exact h
    · replace h := h.2 q2
      refine nw_aload_n l_L_law_1713 1714 rfl rfl ?_
      refine nw_iconst (len := 0) l_L_law_1714 1715 rfl c_0 ?_
      refine nw_lald l_L_law_1715 1716 rfl k_314 ⟨by decide, by decide⟩ (v := L 314 0) rfl ?_
      refine nw_iload l_L_law_1716 1718 rfl rfl ?_
      refine nw_i2l l_L_law_1718 1719 rfl ?_
      refine nw_lcmp l_L_law_1719 1720 rfl ?_
      refine nw_if_eq l_L_law_1720 1723 rfl (fun q3 => ?_) (fun q3 => ?_)
      · replace h := h.1 q3
        refine nw_goto l_L_law_1725 ?_
        refine nw_drop (ls' := [some (.inr (.inl (some 1000000))), some (.inr (.inl (some 0))), some (.inr (.inl (some 303))), some (.inr (.inl (some 314))), some (.inr (.inl (some 315))), some (.inl x5), none, none, none]) ⟨rfl, ⟨rfl, ⟨rfl, ⟨rfl, ⟨rfl, ⟨rfl, ⟨True.intro, ⟨True.intro, ⟨True.intro, True.intro⟩⟩⟩⟩⟩⟩⟩⟩⟩ ?_
        exact h
      · replace h := h.2 q3
        refine nw_iconst (len := 0) l_L_law_1723 1724 rfl c_0 ?_
        refine nw_ireturnZ l_L_law_1724 rfl (Or.inl rfl) ?_
        exact h
  · replace h := h.2 q1
    refine nw_iconst (len := 0) l_L_law_1706 1707 rfl c_0 ?_
    refine nw_ireturnZ l_L_law_1707 rfl (Or.inl rfl) ?_
    exact h
theorem b_L_law_1751 {x5 : Int} {x6 : Int} {y0 : Int} (hD : 18 ≤ D) (h : ((J 303 13 = x6 → ((¬ x6 = 0 → NW sc d_L_law D (3300, [some (.inr (.inl (some 1000000))), some (.inr (.inl (some 0))), some (.inr (.inl (some 303))), some (.inr (.inl (some 314))), some (.inr (.inl (some 315))), some (.inl x5), none, none, none], [], (J, L, W), c, sl) Qr Qx) ∧ (x6 = 0 → ((nw_cmp3 (L 314 0) y0 = 0 → NW sc d_L_law D (3300, [some (.inr (.inl (some 1000000))), some (.inr (.inl (some 0))), some (.inr (.inl (some 303))), some (.inr (.inl (some 314))), some (.inr (.inl (some 315))), some (.inl x5), none, none, none], [], (J, L, W), c, sl) Qr Qx) ∧ (¬ nw_cmp3 (L 314 0) y0 = 0 → Qr (some (.inl 0)) (J, L, W)))))) ∧ (¬ J 303 13 = x6 → Qr (some (.inl 0)) (J, L, W)))) :
    NW sc d_L_law D (1751, [some (.inr (.inl (some 1000000))), some (.inr (.inl (some 0))), some (.inr (.inl (some 303))), some (.inr (.inl (some 314))), some (.inr (.inl (some 315))), some (.inl x5), some (.inl x6), none, none], [.inl y0], (J, L, W), c, sl) Qr Qx := by
  refine nw_istore l_L_law_1751 1753 rfl rfl (ls' := [some (.inr (.inl (some 1000000))), some (.inr (.inl (some 0))), some (.inr (.inl (some 303))), some (.inr (.inl (some 314))), some (.inr (.inl (some 315))), some (.inl x5), some (.inl x6), some (.inl y0), none]) rfl ?_
  refine nw_aload_n l_L_law_1753 1754 rfl rfl ?_
  refine nw_call0 0 303 l_L_law_1754 rfl rfl g_X12_thrown (Nat.lt_of_lt_of_le (by decide) hD) rfl (Or.inl ⟨_, rfl, k_303⟩) (ls' := [some (.inr (.inl (some 303)))]) rfl (st' := []) rfl 1757 rfl ?_
  refine nw_aload_n l_X12_thrown_0 1 rfl rfl ?_
  refine nw_getI l_X12_thrown_1 4 rfl k_303 (v := J 303 13) rfl ?_
  refine nw_ireturn l_X12_thrown_4 rfl ?_
  refine nw_iload l_L_law_1757 1759 rfl rfl ?_
  refine nw_ic_eq l_L_law_1759 1762 rfl (fun q1 => ?_) (fun q1 => ?_)
  · replace h := h.1 q1
    refine nw_iload l_L_law_1764 1766 rfl rfl ?_
    refine nw_if_ne l_L_law_1766 1769 rfl (fun q2 => ?_) (fun q2 => ?_)
    · replace h := h.1 q2
      refine nw_goto l_L_law_1781 ?_
      refine nw_drop (ls' := [some (.inr (.inl (some 1000000))), some (.inr (.inl (some 0))), some (.inr (.inl (some 303))), some (.inr (.inl (some 314))), some (.inr (.inl (some 315))), some (.inl x5), none, none, none]) ⟨rfl, ⟨rfl, ⟨rfl, ⟨rfl, ⟨rfl, ⟨rfl, ⟨True.intro, ⟨True.intro, ⟨True.intro, True.intro⟩⟩⟩⟩⟩⟩⟩⟩⟩ ?_
      exact h
    · replace h := h.2 q2
      refine nw_aload_n l_L_law_1769 1770 rfl rfl ?_
      refine nw_iconst (len := 0) l_L_law_1770 1771 rfl c_0 ?_
      refine nw_lald l_L_law_1771 1772 rfl k_314 ⟨by decide, by decide⟩ (v := L 314 0) rfl ?_
      refine nw_iload l_L_law_1772 1774 rfl rfl ?_
      refine nw_i2l l_L_law_1774 1775 rfl ?_
      refine nw_lcmp l_L_law_1775 1776 rfl ?_
      refine nw_if_eq l_L_law_1776 1779 rfl (fun q3 => ?_) (fun q3 => ?_)
      · replace h := h.1 q3
        refine nw_goto l_L_law_1781 ?_
        refine nw_drop (ls' := [some (.inr (.inl (some 1000000))), some (.inr (.inl (some 0))), some (.inr (.inl (some 303))), some (.inr (.inl (some 314))), some (.inr (.inl (some 315))), some (.inl x5), none, none, none]) ⟨rfl, ⟨rfl, ⟨rfl, ⟨rfl, ⟨rfl, ⟨rfl, ⟨True.intro, ⟨True.intro, ⟨True.intro, True.intro⟩⟩⟩⟩⟩⟩⟩⟩⟩ ?_
        exact h
      · replace h := h.2 q3
        refine nw_iconst (len := 0) l_L_law_1779 1780 rfl c_0 ?_
        refine nw_ireturnZ l_L_law_1780 rfl (Or.inl rfl) ?_
        exact h
  · replace h := h.2 q1
    refine nw_iconst (len := 0) l_L_law_1762 1763 rfl c_0 ?_
    refine nw_ireturnZ l_L_law_1763 rfl (Or.inl rfl) ?_
    exact h
theorem b_L_law_1807 {x5 : Int} {x6 : Int} {y0 : Int} (hD : 18 ≤ D) (h : ((J 303 13 = x6 → ((¬ x6 = 0 → NW sc d_L_law D (3300, [some (.inr (.inl (some 1000000))), some (.inr (.inl (some 0))), some (.inr (.inl (some 303))), some (.inr (.inl (some 314))), some (.inr (.inl (some 315))), some (.inl x5), none, none, none], [], (J, L, W), c, sl) Qr Qx) ∧ (x6 = 0 → ((nw_cmp3 (L 314 0) y0 = 0 → NW sc d_L_law D (3300, [some (.inr (.inl (some 1000000))), some (.inr (.inl (some 0))), some (.inr (.inl (some 303))), some (.inr (.inl (some 314))), some (.inr (.inl (some 315))), some (.inl x5), none, none, none], [], (J, L, W), c, sl) Qr Qx) ∧ (¬ nw_cmp3 (L 314 0) y0 = 0 → Qr (some (.inl 0)) (J, L, W)))))) ∧ (¬ J 303 13 = x6 → Qr (some (.inl 0)) (J, L, W)))) :
    NW sc d_L_law D (1807, [some (.inr (.inl (some 1000000))), some (.inr (.inl (some 0))), some (.inr (.inl (some 303))), some (.inr (.inl (some 314))), some (.inr (.inl (some 315))), some (.inl x5), some (.inl x6), none, none], [.inl y0], (J, L, W), c, sl) Qr Qx := by
  refine nw_istore l_L_law_1807 1809 rfl rfl (ls' := [some (.inr (.inl (some 1000000))), some (.inr (.inl (some 0))), some (.inr (.inl (some 303))), some (.inr (.inl (some 314))), some (.inr (.inl (some 315))), some (.inl x5), some (.inl x6), some (.inl y0), none]) rfl ?_
  refine nw_aload_n l_L_law_1809 1810 rfl rfl ?_
  refine nw_call0 0 303 l_L_law_1810 rfl rfl g_X12_thrown (Nat.lt_of_lt_of_le (by decide) hD) rfl (Or.inl ⟨_, rfl, k_303⟩) (ls' := [some (.inr (.inl (some 303)))]) rfl (st' := []) rfl 1813 rfl ?_
  refine nw_aload_n l_X12_thrown_0 1 rfl rfl ?_
  refine nw_getI l_X12_thrown_1 4 rfl k_303 (v := J 303 13) rfl ?_
  refine nw_ireturn l_X12_thrown_4 rfl ?_
  refine nw_iload l_L_law_1813 1815 rfl rfl ?_
  refine nw_ic_eq l_L_law_1815 1818 rfl (fun q1 => ?_) (fun q1 => ?_)
  · replace h := h.1 q1
    refine nw_iload l_L_law_1820 1822 rfl rfl ?_
    refine nw_if_ne l_L_law_1822 1825 rfl (fun q2 => ?_) (fun q2 => ?_)
    · replace h := h.1 q2
      refine nw_goto l_L_law_1837 ?_
      refine nw_drop (ls' := [some (.inr (.inl (some 1000000))), some (.inr (.inl (some 0))), some (.inr (.inl (some 303))), some (.inr (.inl (some 314))), some (.inr (.inl (some 315))), some (.inl x5), none, none, none]) ⟨rfl, ⟨rfl, ⟨rfl, ⟨rfl, ⟨rfl, ⟨rfl, ⟨True.intro, ⟨True.intro, ⟨True.intro, True.intro⟩⟩⟩⟩⟩⟩⟩⟩⟩ ?_
      exact h
    · replace h := h.2 q2
      refine nw_aload_n l_L_law_1825 1826 rfl rfl ?_
      refine nw_iconst (len := 0) l_L_law_1826 1827 rfl c_0 ?_
      refine nw_lald l_L_law_1827 1828 rfl k_314 ⟨by decide, by decide⟩ (v := L 314 0) rfl ?_
      refine nw_iload l_L_law_1828 1830 rfl rfl ?_
      refine nw_i2l l_L_law_1830 1831 rfl ?_
      refine nw_lcmp l_L_law_1831 1832 rfl ?_
      refine nw_if_eq l_L_law_1832 1835 rfl (fun q3 => ?_) (fun q3 => ?_)
      · replace h := h.1 q3
        refine nw_goto l_L_law_1837 ?_
        refine nw_drop (ls' := [some (.inr (.inl (some 1000000))), some (.inr (.inl (some 0))), some (.inr (.inl (some 303))), some (.inr (.inl (some 314))), some (.inr (.inl (some 315))), some (.inl x5), none, none, none]) ⟨rfl, ⟨rfl, ⟨rfl, ⟨rfl, ⟨rfl, ⟨rfl, ⟨True.intro, ⟨True.intro, ⟨True.intro, True.intro⟩⟩⟩⟩⟩⟩⟩⟩⟩ ?_
        exact h
      · replace h := h.2 q3
        refine nw_iconst (len := 0) l_L_law_1835 1836 rfl c_0 ?_
        refine nw_ireturnZ l_L_law_1836 rfl (Or.inl rfl) ?_
        exact h
  · replace h := h.2 q1
    refine nw_iconst (len := 0) l_L_law_1818 1819 rfl c_0 ?_
    refine nw_ireturnZ l_L_law_1819 rfl (Or.inl rfl) ?_
    exact h
theorem b_L_law_1863 {x5 : Int} {x6 : Int} {y0 : Int} (hD : 18 ≤ D) (h : ((J 303 13 = x6 → ((¬ x6 = 0 → NW sc d_L_law D (3300, [some (.inr (.inl (some 1000000))), some (.inr (.inl (some 0))), some (.inr (.inl (some 303))), some (.inr (.inl (some 314))), some (.inr (.inl (some 315))), some (.inl x5), none, none, none], [], (J, L, W), c, sl) Qr Qx) ∧ (x6 = 0 → ((nw_cmp3 (L 314 0) y0 = 0 → NW sc d_L_law D (3300, [some (.inr (.inl (some 1000000))), some (.inr (.inl (some 0))), some (.inr (.inl (some 303))), some (.inr (.inl (some 314))), some (.inr (.inl (some 315))), some (.inl x5), none, none, none], [], (J, L, W), c, sl) Qr Qx) ∧ (¬ nw_cmp3 (L 314 0) y0 = 0 → Qr (some (.inl 0)) (J, L, W)))))) ∧ (¬ J 303 13 = x6 → Qr (some (.inl 0)) (J, L, W)))) :
    NW sc d_L_law D (1863, [some (.inr (.inl (some 1000000))), some (.inr (.inl (some 0))), some (.inr (.inl (some 303))), some (.inr (.inl (some 314))), some (.inr (.inl (some 315))), some (.inl x5), some (.inl x6), none, none], [.inl y0], (J, L, W), c, sl) Qr Qx := by
  refine nw_istore l_L_law_1863 1865 rfl rfl (ls' := [some (.inr (.inl (some 1000000))), some (.inr (.inl (some 0))), some (.inr (.inl (some 303))), some (.inr (.inl (some 314))), some (.inr (.inl (some 315))), some (.inl x5), some (.inl x6), some (.inl y0), none]) rfl ?_
  refine nw_aload_n l_L_law_1865 1866 rfl rfl ?_
  refine nw_call0 0 303 l_L_law_1866 rfl rfl g_X12_thrown (Nat.lt_of_lt_of_le (by decide) hD) rfl (Or.inl ⟨_, rfl, k_303⟩) (ls' := [some (.inr (.inl (some 303)))]) rfl (st' := []) rfl 1869 rfl ?_
  refine nw_aload_n l_X12_thrown_0 1 rfl rfl ?_
  refine nw_getI l_X12_thrown_1 4 rfl k_303 (v := J 303 13) rfl ?_
  refine nw_ireturn l_X12_thrown_4 rfl ?_
  refine nw_iload l_L_law_1869 1871 rfl rfl ?_
  refine nw_ic_eq l_L_law_1871 1874 rfl (fun q1 => ?_) (fun q1 => ?_)
  · replace h := h.1 q1
    refine nw_iload l_L_law_1876 1878 rfl rfl ?_
    refine nw_if_ne l_L_law_1878 1881 rfl (fun q2 => ?_) (fun q2 => ?_)
    · replace h := h.1 q2
      refine nw_goto l_L_law_1893 ?_
      refine nw_drop (ls' := [some (.inr (.inl (some 1000000))), some (.inr (.inl (some 0))), some (.inr (.inl (some 303))), some (.inr (.inl (some 314))), some (.inr (.inl (some 315))), some (.inl x5), none, none, none]) ⟨rfl, ⟨rfl, ⟨rfl, ⟨rfl, ⟨rfl, ⟨rfl, ⟨True.intro, ⟨True.intro, ⟨True.intro, True.intro⟩⟩⟩⟩⟩⟩⟩⟩⟩ ?_
      exact h
    · replace h := h.2 q2
      refine nw_aload_n l_L_law_1881 1882 rfl rfl ?_
      refine nw_iconst (len := 0) l_L_law_1882 1883 rfl c_0 ?_
      refine nw_lald l_L_law_1883 1884 rfl k_314 ⟨by decide, by decide⟩ (v := L 314 0) rfl ?_
      refine nw_iload l_L_law_1884 1886 rfl rfl ?_
      refine nw_i2l l_L_law_1886 1887 rfl ?_
      refine nw_lcmp l_L_law_1887 1888 rfl ?_
      refine nw_if_eq l_L_law_1888 1891 rfl (fun q3 => ?_) (fun q3 => ?_)
      · replace h := h.1 q3
        refine nw_goto l_L_law_1893 ?_
        refine nw_drop (ls' := [some (.inr (.inl (some 1000000))), some (.inr (.inl (some 0))), some (.inr (.inl (some 303))), some (.inr (.inl (some 314))), some (.inr (.inl (some 315))), some (.inl x5), none, none, none]) ⟨rfl, ⟨rfl, ⟨rfl, ⟨rfl, ⟨rfl, ⟨rfl, ⟨True.intro, ⟨True.intro, ⟨True.intro, True.intro⟩⟩⟩⟩⟩⟩⟩⟩⟩ ?_
        exact h
      · replace h := h.2 q3
        refine nw_iconst (len := 0) l_L_law_1891 1892 rfl c_0 ?_
        refine nw_ireturnZ l_L_law_1892 rfl (Or.inl rfl) ?_
        exact h
  · replace h := h.2 q1
    refine nw_iconst (len := 0) l_L_law_1874 1875 rfl c_0 ?_
    refine nw_ireturnZ l_L_law_1875 rfl (Or.inl rfl) ?_
    exact h
theorem b_L_law_1919 {x5 : Int} {x6 : Int} {y0 : Int} (hD : 18 ≤ D) (h : ((J 303 13 = x6 → ((¬ x6 = 0 → NW sc d_L_law D (3300, [some (.inr (.inl (some 1000000))), some (.inr (.inl (some 0))), some (.inr (.inl (some 303))), some (.inr (.inl (some 314))), some (.inr (.inl (some 315))), some (.inl x5), none, none, none], [], (J, L, W), c, sl) Qr Qx) ∧ (x6 = 0 → ((nw_cmp3 (L 314 0) y0 = 0 → NW sc d_L_law D (3300, [some (.inr (.inl (some 1000000))), some (.inr (.inl (some 0))), some (.inr (.inl (some 303))), some (.inr (.inl (some 314))), some (.inr (.inl (some 315))), some (.inl x5), none, none, none], [], (J, L, W), c, sl) Qr Qx) ∧ (¬ nw_cmp3 (L 314 0) y0 = 0 → Qr (some (.inl 0)) (J, L, W)))))) ∧ (¬ J 303 13 = x6 → Qr (some (.inl 0)) (J, L, W)))) :
    NW sc d_L_law D (1919, [some (.inr (.inl (some 1000000))), some (.inr (.inl (some 0))), some (.inr (.inl (some 303))), some (.inr (.inl (some 314))), some (.inr (.inl (some 315))), some (.inl x5), some (.inl x6), none, none], [.inl y0], (J, L, W), c, sl) Qr Qx := by
  refine nw_istore l_L_law_1919 1921 rfl rfl (ls' := [some (.inr (.inl (some 1000000))), some (.inr (.inl (some 0))), some (.inr (.inl (some 303))), some (.inr (.inl (some 314))), some (.inr (.inl (some 315))), some (.inl x5), some (.inl x6), some (.inl y0), none]) rfl ?_
  refine nw_aload_n l_L_law_1921 1922 rfl rfl ?_
  refine nw_call0 0 303 l_L_law_1922 rfl rfl g_X12_thrown (Nat.lt_of_lt_of_le (by decide) hD) rfl (Or.inl ⟨_, rfl, k_303⟩) (ls' := [some (.inr (.inl (some 303)))]) rfl (st' := []) rfl 1925 rfl ?_
  refine nw_aload_n l_X12_thrown_0 1 rfl rfl ?_
  refine nw_getI l_X12_thrown_1 4 rfl k_303 (v := J 303 13) rfl ?_
  refine nw_ireturn l_X12_thrown_4 rfl ?_
  refine nw_iload l_L_law_1925 1927 rfl rfl ?_
  refine nw_ic_eq l_L_law_1927 1930 rfl (fun q1 => ?_) (fun q1 => ?_)
  · replace h := h.1 q1
    refine nw_iload l_L_law_1932 1934 rfl rfl ?_
    refine nw_if_ne l_L_law_1934 1937 rfl (fun q2 => ?_) (fun q2 => ?_)
    · replace h := h.1 q2
      refine nw_goto l_L_law_1949 ?_
      refine nw_drop (ls' := [some (.inr (.inl (some 1000000))), some (.inr (.inl (some 0))), some (.inr (.inl (some 303))), some (.inr (.inl (some 314))), some (.inr (.inl (some 315))), some (.inl x5), none, none, none]) ⟨rfl, ⟨rfl, ⟨rfl, ⟨rfl, ⟨rfl, ⟨rfl, ⟨True.intro, ⟨True.intro, ⟨True.intro, True.intro⟩⟩⟩⟩⟩⟩⟩⟩⟩ ?_
      exact h
    · replace h := h.2 q2
      refine nw_aload_n l_L_law_1937 1938 rfl rfl ?_
      refine nw_iconst (len := 0) l_L_law_1938 1939 rfl c_0 ?_
      refine nw_lald l_L_law_1939 1940 rfl k_314 ⟨by decide, by decide⟩ (v := L 314 0) rfl ?_
      refine nw_iload l_L_law_1940 1942 rfl rfl ?_
      refine nw_i2l l_L_law_1942 1943 rfl ?_
      refine nw_lcmp l_L_law_1943 1944 rfl ?_
      refine nw_if_eq l_L_law_1944 1947 rfl (fun q3 => ?_) (fun q3 => ?_)
      · replace h := h.1 q3
        refine nw_goto l_L_law_1949 ?_
        refine nw_drop (ls' := [some (.inr (.inl (some 1000000))), some (.inr (.inl (some 0))), some (.inr (.inl (some 303))), some (.inr (.inl (some 314))), some (.inr (.inl (some 315))), some (.inl x5), none, none, none]) ⟨rfl, ⟨rfl, ⟨rfl, ⟨rfl, ⟨rfl, ⟨rfl, ⟨True.intro, ⟨True.intro, ⟨True.intro, True.intro⟩⟩⟩⟩⟩⟩⟩⟩⟩ ?_
        exact h
      · replace h := h.2 q3
        refine nw_iconst (len := 0) l_L_law_1947 1948 rfl c_0 ?_
        refine nw_ireturnZ l_L_law_1948 rfl (Or.inl rfl) ?_
        exact h
  · replace h := h.2 q1
    refine nw_iconst (len := 0) l_L_law_1930 1931 rfl c_0 ?_
    refine nw_ireturnZ l_L_law_1931 rfl (Or.inl rfl) ?_
    exact h
theorem b_L_law_1975 {x5 : Int} {x6 : Int} {y0 : Int} (hD : 18 ≤ D) (h : ((J 303 13 = x6 → ((¬ x6 = 0 → NW sc d_L_law D (3300, [some (.inr (.inl (some 1000000))), some (.inr (.inl (some 0))), some (.inr (.inl (some 303))), some (.inr (.inl (some 314))), some (.inr (.inl (some 315))), some (.inl x5), none, none, none], [], (J, L, W), c, sl) Qr Qx) ∧ (x6 = 0 → ((nw_cmp3 (L 314 0) y0 = 0 → NW sc d_L_law D (3300, [some (.inr (.inl (some 1000000))), some (.inr (.inl (some 0))), some (.inr (.inl (some 303))), some (.inr (.inl (some 314))), some (.inr (.inl (some 315))), some (.inl x5), none, none, none], [], (J, L, W), c, sl) Qr Qx) ∧ (¬ nw_cmp3 (L 314 0) y0 = 0 → Qr (some (.inl 0)) (J, L, W)))))) ∧ (¬ J 303 13 = x6 → Qr (some (.inl 0)) (J, L, W)))) :
    NW sc d_L_law D (1975, [some (.inr (.inl (some 1000000))), some (.inr (.inl (some 0))), some (.inr (.inl (some 303))), some (.inr (.inl (some 314))), some (.inr (.inl (some 315))), some (.inl x5), some (.inl x6), none, none], [.inl y0], (J, L, W), c, sl) Qr Qx := by
  refine nw_istore l_L_law_1975 1977 rfl rfl (ls' := [some (.inr (.inl (some 1000000))), some (.inr (.inl (some 0))), some (.inr (.inl (some 303))), some (.inr (.inl (some 314))), some (.inr (.inl (some 315))), some (.inl x5), some (.inl x6), some (.inl y0), none]) rfl ?_
  refine nw_aload_n l_L_law_1977 1978 rfl rfl ?_
  refine nw_call0 0 303 l_L_law_1978 rfl rfl g_X12_thrown (Nat.lt_of_lt_of_le (by decide) hD) rfl (Or.inl ⟨_, rfl, k_303⟩) (ls' := [some (.inr (.inl (some 303)))]) rfl (st' := []) rfl 1981 rfl ?_
  refine nw_aload_n l_X12_thrown_0 1 rfl rfl ?_
  refine nw_getI l_X12_thrown_1 4 rfl k_303 (v := J 303 13) rfl ?_
  refine nw_ireturn l_X12_thrown_4 rfl ?_
  refine nw_iload l_L_law_1981 1983 rfl rfl ?_
  refine nw_ic_eq l_L_law_1983 1986 rfl (fun q1 => ?_) (fun q1 => ?_)
  · replace h := h.1 q1
    refine nw_iload l_L_law_1988 1990 rfl rfl ?_
    refine nw_if_ne l_L_law_1990 1993 rfl (fun q2 => ?_) (fun q2 => ?_)
    · replace h := h.1 q2
      refine nw_goto l_L_law_2005 ?_
      refine nw_drop (ls' := [some (.inr (.inl (some 1000000))), some (.inr (.inl (some 0))), some (.inr (.inl (some 303))), some (.inr (.inl (some 314))), some (.inr (.inl (some 315))), some (.inl x5), none, none, none]) ⟨rfl, ⟨rfl, ⟨rfl, ⟨rfl, ⟨rfl, ⟨rfl, ⟨True.intro, ⟨True.intro, ⟨True.intro, True.intro⟩⟩⟩⟩⟩⟩⟩⟩⟩ ?_
      exact h
    · replace h := h.2 q2
      refine nw_aload_n l_L_law_1993 1994 rfl rfl ?_
      refine nw_iconst (len := 0) l_L_law_1994 1995 rfl c_0 ?_
      refine nw_lald l_L_law_1995 1996 rfl k_314 ⟨by decide, by decide⟩ (v := L 314 0) rfl ?_
      refine nw_iload l_L_law_1996 1998 rfl rfl ?_
      refine nw_i2l l_L_law_1998 1999 rfl ?_
      refine nw_lcmp l_L_law_1999 2000 rfl ?_
      refine nw_if_eq l_L_law_2000 2003 rfl (fun q3 => ?_) (fun q3 => ?_)
      · replace h := h.1 q3
        refine nw_goto l_L_law_2005 ?_
        refine nw_drop (ls' := [some (.inr (.inl (some 1000000))), some (.inr (.inl (some 0))), some (.inr (.inl (some 303))), some (.inr (.inl (some 314))), some (.inr (.inl (some 315))), some (.inl x5), none, none, none]) ⟨rfl, ⟨rfl, ⟨rfl, ⟨rfl, ⟨rfl, ⟨rfl, ⟨True.intro, ⟨True.intro, ⟨True.intro, True.intro⟩⟩⟩⟩⟩⟩⟩⟩⟩ ?_
        exact h
      · replace h := h.2 q3
        refine nw_iconst (len := 0) l_L_law_2003 2004 rfl c_0 ?_
        refine nw_ireturnZ l_L_law_2004 rfl (Or.inl rfl) ?_
        exact h
  · replace h := h.2 q1
    refine nw_iconst (len := 0) l_L_law_1986 1987 rfl c_0 ?_
    refine nw_ireturnZ l_L_law_1987 rfl (Or.inl rfl) ?_
    exact h
theorem b_L_law_2016 {x5 : Int} {y0 : Int} {y1 : Int} (h : ((y1 = y0 → NW sc d_L_law D (3300, [some (.inr (.inl (some 1000000))), some (.inr (.inl (some 0))), some (.inr (.inl (some 303))), some (.inr (.inl (some 314))), some (.inr (.inl (some 315))), some (.inl x5), none, none, none], [], (J, L, W), c, sl) Qr Qx) ∧ (¬ y1 = y0 → Qr (some (.inl 0)) (J, L, W)))) :
    NW sc d_L_law D (2016, [some (.inr (.inl (some 1000000))), some (.inr (.inl (some 0))), some (.inr (.inl (some 303))), some (.inr (.inl (some 314))), some (.inr (.inl (some 315))), some (.inl x5), none, none, none], [.inl y0, .inl y1], (J, L, W), c, sl) Qr Qx := by
  refine nw_ic_eq l_L_law_2016 2019 rfl (fun q1 => ?_) (fun q1 => ?_)
  · replace h := h.1 q1
    exact h
  · replace h := h.2 q1
    refine nw_iconst (len := 0) l_L_law_2019 2020 rfl c_0 ?_
    refine nw_ireturnZ l_L_law_2020 rfl (Or.inl rfl) ?_
    exact h
theorem b_L_law_2044 {x5 : Int} {x6 : Int} {y0 : Int} (hD : 18 ≤ D) (h : ((J 303 13 = x6 → ((¬ x6 = 0 → NW sc d_L_law D (3300, [some (.inr (.inl (some 1000000))), some (.inr (.inl (some 0))), some (.inr (.inl (some 303))), some (.inr (.inl (some 314))), some (.inr (.inl (some 315))), some (.inl x5), none, none, none], [], (J, L, W), c, sl) Qr Qx) ∧ (x6 = 0 → ((nw_cmp3 (L 314 0) y0 = 0 → NW sc d_L_law D (3300, [some (.inr (.inl (some 1000000))), some (.inr (.inl (some 0))), some (.inr (.inl (some 303))), some (.inr (.inl (some 314))), some (.inr (.inl (some 315))), some (.inl x5), none, none, none], [], (J, L, W), c, sl) Qr Qx) ∧ (¬ nw_cmp3 (L 314 0) y0 = 0 → Qr (some (.inl 0)) (J, L, W)))))) ∧ (¬ J 303 13 = x6 → Qr (some (.inl 0)) (J, L, W)))) :
    NW sc d_L_law D (2044, [some (.inr (.inl (some 1000000))), some (.inr (.inl (some 0))), some (.inr (.inl (some 303))), some (.inr (.inl (some 314))), some (.inr (.inl (some 315))), some (.inl x5), some (.inl x6), none, none], [.inl y0], (J, L, W), c, sl) Qr Qx := by
  refine nw_istore l_L_law_2044 2046 rfl rfl (ls' := [some (.inr (.inl (some 1000000))), some (.inr (.inl (some 0))), some (.inr (.inl (some 303))), some (.inr (.inl (some 314))), some (.inr (.inl (some 315))), some (.inl x5), some (.inl x6), some (.inl y0), none]) rfl ?_
  refine nw_aload_n l_L_law_2046 2047 rfl rfl ?_
  refine nw_call0 0 303 l_L_law_2047 rfl rfl g_X12_thrown (Nat.lt_of_lt_of_le (by decide) hD) rfl (Or.inl ⟨_, rfl, k_303⟩) (ls' := [some (.inr (.inl (some 303)))]) rfl (st' := []) rfl 2050 rfl ?_
  refine nw_aload_n l_X12_thrown_0 1 rfl rfl ?_
  refine nw_getI l_X12_thrown_1 4 rfl k_303 (v := J 303 13) rfl ?_
  refine nw_ireturn l_X12_thrown_4 rfl ?_
  refine nw_iload l_L_law_2050 2052 rfl rfl ?_
  refine nw_ic_eq l_L_law_2052 2055 rfl (fun q1 => ?_) (fun q1 => ?_)
  · replace h := h.1 q1
    refine nw_iload l_L_law_2057 2059 rfl rfl ?_
    refine nw_if_ne l_L_law_2059 2062 rfl (fun q2 => ?_) (fun q2 => ?_)
    · replace h := h.1 q2
      refine nw_goto l_L_law_2074 ?_
      refine nw_drop (ls' := [some (.inr (.inl (some 1000000))), some (.inr (.inl (some 0))), some (.inr (.inl (some 303))), some (.inr (.inl (some 314))), some (.inr (.inl (some 315))), some (.inl x5), none, none, none]) ⟨rfl, ⟨rfl, ⟨rfl, ⟨rfl, ⟨rfl, ⟨rfl, ⟨True.intro, ⟨True.intro, ⟨True.intro, True.intro⟩⟩⟩⟩⟩⟩⟩⟩⟩ ?_
      exact h
    · replace h := h.2 q2
      refine nw_aload_n l_L_law_2062 2063 rfl rfl ?_
      refine nw_iconst (len := 0) l_L_law_2063 2064 rfl c_0 ?_
      refine nw_lald l_L_law_2064 2065 rfl k_314 ⟨by decide, by decide⟩ (v := L 314 0) rfl ?_
      refine nw_iload l_L_law_2065 2067 rfl rfl ?_
      refine nw_i2l l_L_law_2067 2068 rfl ?_
      refine nw_lcmp l_L_law_2068 2069 rfl ?_
      refine nw_if_eq l_L_law_2069 2072 rfl (fun q3 => ?_) (fun q3 => ?_)
      · replace h := h.1 q3
        refine nw_goto l_L_law_2074 ?_
        refine nw_drop (ls' := [some (.inr (.inl (some 1000000))), some (.inr (.inl (some 0))), some (.inr (.inl (some 303))), some (.inr (.inl (some 314))), some (.inr (.inl (some 315))), some (.inl x5), none, none, none]) ⟨rfl, ⟨rfl, ⟨rfl, ⟨rfl, ⟨rfl, ⟨rfl, ⟨True.intro, ⟨True.intro, ⟨True.intro, True.intro⟩⟩⟩⟩⟩⟩⟩⟩⟩ ?_
        exact h
      · replace h := h.2 q3
        refine nw_iconst (len := 0) l_L_law_2072 2073 rfl c_0 ?_
        refine nw_ireturnZ l_L_law_2073 rfl (Or.inl rfl) ?_
        exact h
  · replace h := h.2 q1
    refine nw_iconst (len := 0) l_L_law_2055 2056 rfl c_0 ?_
    refine nw_ireturnZ l_L_law_2056 rfl (Or.inl rfl) ?_
    exact h
theorem b_L_law_2100 {x5 : Int} {x6 : Int} {y0 : Int} (hD : 18 ≤ D) (h : ((J 303 13 = x6 → ((¬ x6 = 0 → NW sc d_L_law D (3300, [some (.inr (.inl (some 1000000))), some (.inr (.inl (some 0))), some (.inr (.inl (some 303))), some (.inr (.inl (some 314))), some (.inr (.inl (some 315))), some (.inl x5), none, none, none], [], (J, L, W), c, sl) Qr Qx) ∧ (x6 = 0 → ((nw_cmp3 (L 314 0) y0 = 0 → NW sc d_L_law D (3300, [some (.inr (.inl (some 1000000))), some (.inr (.inl (some 0))), some (.inr (.inl (some 303))), some (.inr (.inl (some 314))), some (.inr (.inl (some 315))), some (.inl x5), none, none, none], [], (J, L, W), c, sl) Qr Qx) ∧ (¬ nw_cmp3 (L 314 0) y0 = 0 → Qr (some (.inl 0)) (J, L, W)))))) ∧ (¬ J 303 13 = x6 → Qr (some (.inl 0)) (J, L, W)))) :
    NW sc d_L_law D (2100, [some (.inr (.inl (some 1000000))), some (.inr (.inl (some 0))), some (.inr (.inl (some 303))), some (.inr (.inl (some 314))), some (.inr (.inl (some 315))), some (.inl x5), some (.inl x6), none, none], [.inl y0], (J, L, W), c, sl) Qr Qx := by
  refine nw_istore l_L_law_2100 2102 rfl rfl (ls' := [some (.inr (.inl (some 1000000))), some (.inr (.inl (some 0))), some (.inr (.inl (some 303))), some (.inr (.inl (some 314))), some (.inr (.inl (some 315))), some (.inl x5), some (.inl x6), some (.inl y0), none]) rfl ?_
  refine nw_aload_n l_L_law_2102 2103 rfl rfl ?_
  refine nw_call0 0 303 l_L_law_2103 rfl rfl g_X12_thrown (Nat.lt_of_lt_of_le (by decide) hD) rfl (Or.inl ⟨_, rfl, k_303⟩) (ls' := [some (.inr (.inl (some 303)))]) rfl (st' := []) rfl 2106 rfl ?_
  refine nw_aload_n l_X12_thrown_0 1 rfl rfl ?_
  refine nw_getI l_X12_thrown_1 4 rfl k_303 (v := J 303 13) rfl ?_
  refine nw_ireturn l_X12_thrown_4 rfl ?_
  refine nw_iload l_L_law_2106 2108 rfl rfl ?_
  refine nw_ic_eq l_L_law_2108 2111 rfl (fun q1 => ?_) (fun q1 => ?_)
  · replace h := h.1 q1
    refine nw_iload l_L_law_2113 2115 rfl rfl ?_
    refine nw_if_ne l_L_law_2115 2118 rfl (fun q2 => ?_) (fun q2 => ?_)
    · replace h := h.1 q2
      refine nw_goto l_L_law_2130 ?_
      refine nw_drop (ls' := [some (.inr (.inl (some 1000000))), some (.inr (.inl (some 0))), some (.inr (.inl (some 303))), some (.inr (.inl (some 314))), some (.inr (.inl (some 315))), some (.inl x5), none, none, none]) ⟨rfl, ⟨rfl, ⟨rfl, ⟨rfl, ⟨rfl, ⟨rfl, ⟨True.intro, ⟨True.intro, ⟨True.intro, True.intro⟩⟩⟩⟩⟩⟩⟩⟩⟩ ?_
      exact h
    · replace h := h.2 q2
      refine nw_aload_n l_L_law_2118 2119 rfl rfl ?_
      refine nw_iconst (len := 0) l_L_law_2119 2120 rfl c_0 ?_
      refine nw_lald l_L_law_2120 2121 rfl k_314 ⟨by decide, by decide⟩ (v := L 314 0) rfl ?_
      refine nw_iload l_L_law_2121 2123 rfl rfl ?_
      refine nw_i2l l_L_law_2123 2124 rfl ?_
      refine nw_lcmp l_L_law_2124 2125 rfl ?_
      refine nw_if_eq l_L_law_2125 2128 rfl (fun q3 => ?_) (fun q3 => ?_)
      · replace h := h.1 q3
        refine nw_goto l_L_law_2130 ?_
        refine nw_drop (ls' := [some (.inr (.inl (some 1000000))), some (.inr (.inl (some 0))), some (.inr (.inl (some 303))), some (.inr (.inl (some 314))), some (.inr (.inl (some 315))), some (.inl x5), none, none, none]) ⟨rfl, ⟨rfl, ⟨rfl, ⟨rfl, ⟨rfl, ⟨rfl, ⟨True.intro, ⟨True.intro, ⟨True.intro, True.intro⟩⟩⟩⟩⟩⟩⟩⟩⟩ ?_
        exact h
      · replace h := h.2 q3
        refine nw_iconst (len := 0) l_L_law_2128 2129 rfl c_0 ?_
        refine nw_ireturnZ l_L_law_2129 rfl (Or.inl rfl) ?_
        exact h
  · replace h := h.2 q1
    refine nw_iconst (len := 0) l_L_law_2111 2112 rfl c_0 ?_
    refine nw_ireturnZ l_L_law_2112 rfl (Or.inl rfl) ?_
    exact h
theorem b_L_law_2156 {x5 : Int} {x6 : Int} {y0 : Int} (hD : 18 ≤ D) (h : ((J 303 13 = x6 → ((¬ x6 = 0 → NW sc d_L_law D (3300, [some (.inr (.inl (some 1000000))), some (.inr (.inl (some 0))), some (.inr (.inl (some 303))), some (.inr (.inl (some 314))), some (.inr (.inl (some 315))), some (.inl x5), none, none, none], [], (J, L, W), c, sl) Qr Qx) ∧ (x6 = 0 → ((nw_cmp3 (L 314 0) y0 = 0 → NW sc d_L_law D (3300, [some (.inr (.inl (some 1000000))), some (.inr (.inl (some 0))), some (.inr (.inl (some 303))), some (.inr (.inl (some 314))), some (.inr (.inl (some 315))), some (.inl x5), none, none, none], [], (J, L, W), c, sl) Qr Qx) ∧ (¬ nw_cmp3 (L 314 0) y0 = 0 → Qr (some (.inl 0)) (J, L, W)))))) ∧ (¬ J 303 13 = x6 → Qr (some (.inl 0)) (J, L, W)))) :
    NW sc d_L_law D (2156, [some (.inr (.inl (some 1000000))), some (.inr (.inl (some 0))), some (.inr (.inl (some 303))), some (.inr (.inl (some 314))), some (.inr (.inl (some 315))), some (.inl x5), some (.inl x6), none, none], [.inl y0], (J, L, W), c, sl) Qr Qx := by
  refine nw_istore l_L_law_2156 2158 rfl rfl (ls' := [some (.inr (.inl (some 1000000))), some (.inr (.inl (some 0))), some (.inr (.inl (some 303))), some (.inr (.inl (some 314))), some (.inr (.inl (some 315))), some (.inl x5), some (.inl x6), some (.inl y0), none]) rfl ?_
  refine nw_aload_n l_L_law_2158 2159 rfl rfl ?_
  refine nw_call0 0 303 l_L_law_2159 rfl rfl g_X12_thrown (Nat.lt_of_lt_of_le (by decide) hD) rfl (Or.inl ⟨_, rfl, k_303⟩) (ls' := [some (.inr (.inl (some 303)))]) rfl (st' := []) rfl 2162 rfl ?_
  refine nw_aload_n l_X12_thrown_0 1 rfl rfl ?_
  refine nw_getI l_X12_thrown_1 4 rfl k_303 (v := J 303 13) rfl ?_
  refine nw_ireturn l_X12_thrown_4 rfl ?_
  refine nw_iload l_L_law_2162 2164 rfl rfl ?_
  refine nw_ic_eq l_L_law_2164 2167 rfl (fun q1 => ?_) (fun q1 => ?_)
  · replace h := h.1 q1
    refine nw_iload l_L_law_2169 2171 rfl rfl ?_
    refine nw_if_ne l_L_law_2171 2174 rfl (fun q2 => ?_) (fun q2 => ?_)
    · replace h := h.1 q2
      refine nw_goto l_L_law_2186 ?_
      refine nw_drop (ls' := [some (.inr (.inl (some 1000000))), some (.inr (.inl (some 0))), some (.inr (.inl (some 303))), some (.inr (.inl (some 314))), some (.inr (.inl (some 315))), some (.inl x5), none, none, none]) ⟨rfl, ⟨rfl, ⟨rfl, ⟨rfl, ⟨rfl, ⟨rfl, ⟨True.intro, ⟨True.intro, ⟨True.intro, True.intro⟩⟩⟩⟩⟩⟩⟩⟩⟩ ?_
      exact h
    · replace h := h.2 q2
      refine nw_aload_n l_L_law_2174 2175 rfl rfl ?_
      refine nw_iconst (len := 0) l_L_law_2175 2176 rfl c_0 ?_
      refine nw_lald l_L_law_2176 2177 rfl k_314 ⟨by decide, by decide⟩ (v := L 314 0) rfl ?_
      refine nw_iload l_L_law_2177 2179 rfl rfl ?_
      refine nw_i2l l_L_law_2179 2180 rfl ?_
      refine nw_lcmp l_L_law_2180 2181 rfl ?_
      refine nw_if_eq l_L_law_2181 2184 rfl (fun q3 => ?_) (fun q3 => ?_)
      · replace h := h.1 q3
        refine nw_goto l_L_law_2186 ?_
        refine nw_drop (ls' := [some (.inr (.inl (some 1000000))), some (.inr (.inl (some 0))), some (.inr (.inl (some 303))), some (.inr (.inl (some 314))), some (.inr (.inl (some 315))), some (.inl x5), none, none, none]) ⟨rfl, ⟨rfl, ⟨rfl, ⟨rfl, ⟨rfl, ⟨rfl, ⟨True.intro, ⟨True.intro, ⟨True.intro, True.intro⟩⟩⟩⟩⟩⟩⟩⟩⟩ ?_
        exact h
      · replace h := h.2 q3
        refine nw_iconst (len := 0) l_L_law_2184 2185 rfl c_0 ?_
        refine nw_ireturnZ l_L_law_2185 rfl (Or.inl rfl) ?_
        exact h
  · replace h := h.2 q1
    refine nw_iconst (len := 0) l_L_law_2167 2168 rfl c_0 ?_
    refine nw_ireturnZ l_L_law_2168 rfl (Or.inl rfl) ?_
    exact h
theorem b_L_law_2212 {x5 : Int} {x6 : Int} {y0 : Int} (hD : 18 ≤ D) (h : ((J 303 13 = x6 → ((¬ x6 = 0 → NW sc d_L_law D (3300, [some (.inr (.inl (some 1000000))), some (.inr (.inl (some 0))), some (.inr (.inl (some 303))), some (.inr (.inl (some 314))), some (.inr (.inl (some 315))), some (.inl x5), none, none, none], [], (J, L, W), c, sl) Qr Qx) ∧ (x6 = 0 → ((nw_cmp3 (L 314 0) y0 = 0 → NW sc d_L_law D (3300, [some (.inr (.inl (some 1000000))), some (.inr (.inl (some 0))), some (.inr (.inl (some 303))), some (.inr (.inl (some 314))), some (.inr (.inl (some 315))), some (.inl x5), none, none, none], [], (J, L, W), c, sl) Qr Qx) ∧ (¬ nw_cmp3 (L 314 0) y0 = 0 → Qr (some (.inl 0)) (J, L, W)))))) ∧ (¬ J 303 13 = x6 → Qr (some (.inl 0)) (J, L, W)))) :
    NW sc d_L_law D (2212, [some (.inr (.inl (some 1000000))), some (.inr (.inl (some 0))), some (.inr (.inl (some 303))), some (.inr (.inl (some 314))), some (.inr (.inl (some 315))), some (.inl x5), some (.inl x6), none, none], [.inl y0], (J, L, W), c, sl) Qr Qx := by
  refine nw_istore l_L_law_2212 2214 rfl rfl (ls' := [some (.inr (.inl (some 1000000))), some (.inr (.inl (some 0))), some (.inr (.inl (some 303))), some (.inr (.inl (some 314))), some (.inr (.inl (some 315))), some (.inl x5), some (.inl x6), some (.inl y0), none]) rfl ?_
  refine nw_aload_n l_L_law_2214 2215 rfl rfl ?_
  refine nw_call0 0 303 l_L_law_2215 rfl rfl g_X12_thrown (Nat.lt_of_lt_of_le (by decide) hD) rfl (Or.inl ⟨_, rfl, k_303⟩) (ls' := [some (.inr (.inl (some 303)))]) rfl (st' := []) rfl 2218 rfl ?_
  refine nw_aload_n l_X12_thrown_0 1 rfl rfl ?_
  refine nw_getI l_X12_thrown_1 4 rfl k_303 (v := J 303 13) rfl ?_
  refine nw_ireturn l_X12_thrown_4 rfl ?_
  refine nw_iload l_L_law_2218 2220 rfl rfl ?_
  refine nw_ic_eq l_L_law_2220 2223 rfl (fun q1 => ?_) (fun q1 => ?_)
  · replace h := h.1 q1
    refine nw_iload l_L_law_2225 2227 rfl rfl ?_
    refine nw_if_ne l_L_law_2227 2230 rfl (fun q2 => ?_) (fun q2 => ?_)
    · replace h := h.1 q2
      refine nw_goto l_L_law_2242 ?_
      refine nw_drop (ls' := [some (.inr (.inl (some 1000000))), some (.inr (.inl (some 0))), some (.inr (.inl (some 303))), some (.inr (.inl (some 314))), some (.inr (.inl (some 315))), some (.inl x5), none, none, none]) ⟨rfl, ⟨rfl, ⟨rfl, ⟨rfl, ⟨rfl, ⟨rfl, ⟨True.intro, ⟨True.intro, ⟨True.intro, True.intro⟩⟩⟩⟩⟩⟩⟩⟩⟩ ?_
      exact h
    · replace h := h.2 q2
      refine nw_aload_n l_L_law_2230 2231 rfl rfl ?_
      refine nw_iconst (len := 0) l_L_law_2231 2232 rfl c_0 ?_
      refine nw_lald l_L_law_2232 2233 rfl k_314 ⟨by decide, by decide⟩ (v := L 314 0) rfl ?_
      refine nw_iload l_L_law_2233 2235 rfl rfl ?_
      refine nw_i2l l_L_law_2235 2236 rfl ?_
      refine nw_lcmp l_L_law_2236 2237 rfl ?_
      refine nw_if_eq l_L_law_2237 2240 rfl (fun q3 => ?_) (fun q3 => ?_)
      · replace h := h.1 q3
        refine nw_goto l_L_law_2242 ?_
        refine nw_drop (ls' := [some (.inr (.inl (some 1000000))), some (.inr (.inl (some 0))), some (.inr (.inl (some 303))), some (.inr (.inl (some 314))), some (.inr (.inl (some 315))), some (.inl x5), none, none, none]) ⟨rfl, ⟨rfl, ⟨rfl, ⟨rfl, ⟨rfl, ⟨rfl, ⟨True.intro, ⟨True.intro, ⟨True.intro, True.intro⟩⟩⟩⟩⟩⟩⟩⟩⟩ ?_
        exact h
      · replace h := h.2 q3
        refine nw_iconst (len := 0) l_L_law_2240 2241 rfl c_0 ?_
        refine nw_ireturnZ l_L_law_2241 rfl (Or.inl rfl) ?_
        exact h
  · replace h := h.2 q1
    refine nw_iconst (len := 0) l_L_law_2223 2224 rfl c_0 ?_
    refine nw_ireturnZ l_L_law_2224 rfl (Or.inl rfl) ?_
    exact h
theorem b_L_law_2268 {x5 : Int} {x6 : Int} {y0 : Int} (hD : 18 ≤ D) (h : ((J 303 13 = x6 → ((¬ x6 = 0 → NW sc d_L_law D (3300, [some (.inr (.inl (some 1000000))), some (.inr (.inl (some 0))), some (.inr (.inl (some 303))), some (.inr (.inl (some 314))), some (.inr (.inl (some 315))), some (.inl x5), none, none, none], [], (J, L, W), c, sl) Qr Qx) ∧ (x6 = 0 → ((nw_cmp3 (L 314 0) y0 = 0 → NW sc d_L_law D (3300, [some (.inr (.inl (some 1000000))), some (.inr (.inl (some 0))), some (.inr (.inl (some 303))), some (.inr (.inl (some 314))), some (.inr (.inl (some 315))), some (.inl x5), none, none, none], [], (J, L, W), c, sl) Qr Qx) ∧ (¬ nw_cmp3 (L 314 0) y0 = 0 → Qr (some (.inl 0)) (J, L, W)))))) ∧ (¬ J 303 13 = x6 → Qr (some (.inl 0)) (J, L, W)))) :
    NW sc d_L_law D (2268, [some (.inr (.inl (some 1000000))), some (.inr (.inl (some 0))), some (.inr (.inl (some 303))), some (.inr (.inl (some 314))), some (.inr (.inl (some 315))), some (.inl x5), some (.inl x6), none, none], [.inl y0], (J, L, W), c, sl) Qr Qx := by
  refine nw_istore l_L_law_2268 2270 rfl rfl (ls' := [some (.inr (.inl (some 1000000))), some (.inr (.inl (some 0))), some (.inr (.inl (some 303))), some (.inr (.inl (some 314))), some (.inr (.inl (some 315))), some (.inl x5), some (.inl x6), some (.inl y0), none]) rfl ?_
  refine nw_aload_n l_L_law_2270 2271 rfl rfl ?_
  refine nw_call0 0 303 l_L_law_2271 rfl rfl g_X12_thrown (Nat.lt_of_lt_of_le (by decide) hD) rfl (Or.inl ⟨_, rfl, k_303⟩) (ls' := [some (.inr (.inl (some 303)))]) rfl (st' := []) rfl 2274 rfl ?_
  refine nw_aload_n l_X12_thrown_0 1 rfl rfl ?_
  refine nw_getI l_X12_thrown_1 4 rfl k_303 (v := J 303 13) rfl ?_
  refine nw_ireturn l_X12_thrown_4 rfl ?_
  refine nw_iload l_L_law_2274 2276 rfl rfl ?_
  refine nw_ic_eq l_L_law_2276 2279 rfl (fun q1 => ?_) (fun q1 => ?_)
  · replace h := h.1 q1
    refine nw_iload l_L_law_2281 2283 rfl rfl ?_
    refine nw_if_ne l_L_law_2283 2286 rfl (fun q2 => ?_) (fun q2 => ?_)
    · replace h := h.1 q2
      refine nw_goto l_L_law_2298 ?_
      refine nw_drop (ls' := [some (.inr (.inl (some 1000000))), some (.inr (.inl (some 0))), some (.inr (.inl (some 303))), some (.inr (.inl (some 314))), some (.inr (.inl (some 315))), some (.inl x5), none, none, none]) ⟨rfl, ⟨rfl, ⟨rfl, ⟨rfl, ⟨rfl, ⟨rfl, ⟨True.intro, ⟨True.intro, ⟨True.intro, True.intro⟩⟩⟩⟩⟩⟩⟩⟩⟩ ?_
      exact h
    · replace h := h.2 q2
      refine nw_aload_n l_L_law_2286 2287 rfl rfl ?_
      refine nw_iconst (len := 0) l_L_law_2287 2288 rfl c_0 ?_
      refine nw_lald l_L_law_2288 2289 rfl k_314 ⟨by decide, by decide⟩ (v := L 314 0) rfl ?_
      refine nw_iload l_L_law_2289 2291 rfl rfl ?_
      refine nw_i2l l_L_law_2291 2292 rfl ?_
      refine nw_lcmp l_L_law_2292 2293 rfl ?_
      refine nw_if_eq l_L_law_2293 2296 rfl (fun q3 => ?_) (fun q3 => ?_)
      · replace h := h.1 q3
        refine nw_goto l_L_law_2298 ?_
        refine nw_drop (ls' := [some (.inr (.inl (some 1000000))), some (.inr (.inl (some 0))), some (.inr (.inl (some 303))), some (.inr (.inl (some 314))), some (.inr (.inl (some 315))), some (.inl x5), none, none, none]) ⟨rfl, ⟨rfl, ⟨rfl, ⟨rfl, ⟨rfl, ⟨rfl, ⟨True.intro, ⟨True.intro, ⟨True.intro, True.intro⟩⟩⟩⟩⟩⟩⟩⟩⟩ ?_
        exact h
      · replace h := h.2 q3
        refine nw_iconst (len := 0) l_L_law_2296 2297 rfl c_0 ?_
        refine nw_ireturnZ l_L_law_2297 rfl (Or.inl rfl) ?_
        exact h
  · replace h := h.2 q1
    refine nw_iconst (len := 0) l_L_law_2279 2280 rfl c_0 ?_
    refine nw_ireturnZ l_L_law_2280 rfl (Or.inl rfl) ?_
    exact h
theorem b_L_law_2324 {x5 : Int} {x6 : Int} {y0 : Int} (hD : 18 ≤ D) (h : ((J 303 13 = x6 → ((¬ x6 = 0 → NW sc d_L_law D (3300, [some (.inr (.inl (some 1000000))), some (.inr (.inl (some 0))), some (.inr (.inl (some 303))), some (.inr (.inl (some 314))), some (.inr (.inl (some 315))), some (.inl x5), none, none, none], [], (J, L, W), c, sl) Qr Qx) ∧ (x6 = 0 → ((nw_cmp3 (L 314 0) y0 = 0 → NW sc d_L_law D (3300, [some (.inr (.inl (some 1000000))), some (.inr (.inl (some 0))), some (.inr (.inl (some 303))), some (.inr (.inl (some 314))), some (.inr (.inl (some 315))), some (.inl x5), none, none, none], [], (J, L, W), c, sl) Qr Qx) ∧ (¬ nw_cmp3 (L 314 0) y0 = 0 → Qr (some (.inl 0)) (J, L, W)))))) ∧ (¬ J 303 13 = x6 → Qr (some (.inl 0)) (J, L, W)))) :
    NW sc d_L_law D (2324, [some (.inr (.inl (some 1000000))), some (.inr (.inl (some 0))), some (.inr (.inl (some 303))), some (.inr (.inl (some 314))), some (.inr (.inl (some 315))), some (.inl x5), some (.inl x6), none, none], [.inl y0], (J, L, W), c, sl) Qr Qx := by
  refine nw_istore l_L_law_2324 2326 rfl rfl (ls' := [some (.inr (.inl (some 1000000))), some (.inr (.inl (some 0))), some (.inr (.inl (some 303))), some (.inr (.inl (some 314))), some (.inr (.inl (some 315))), some (.inl x5), some (.inl x6), some (.inl y0), none]) rfl ?_
  refine nw_aload_n l_L_law_2326 2327 rfl rfl ?_
  refine nw_call0 0 303 l_L_law_2327 rfl rfl g_X12_thrown (Nat.lt_of_lt_of_le (by decide) hD) rfl (Or.inl ⟨_, rfl, k_303⟩) (ls' := [some (.inr (.inl (some 303)))]) rfl (st' := []) rfl 2330 rfl ?_
  refine nw_aload_n l_X12_thrown_0 1 rfl rfl ?_
  refine nw_getI l_X12_thrown_1 4 rfl k_303 (v := J 303 13) rfl ?_
  refine nw_ireturn l_X12_thrown_4 rfl ?_
  refine nw_iload l_L_law_2330 2332 rfl rfl ?_
  refine nw_ic_eq l_L_law_2332 2335 rfl (fun q1 => ?_) (fun q1 => ?_)
  · replace h := h.1 q1
    refine nw_iload l_L_law_2337 2339 rfl rfl ?_
    refine nw_if_ne l_L_law_2339 2342 rfl (fun q2 => ?_) (fun q2 => ?_)
    · replace h := h.1 q2
      refine nw_goto l_L_law_2354 ?_
      refine nw_drop (ls' := [some (.inr (.inl (some 1000000))), some (.inr (.inl (some 0))), some (.inr (.inl (some 303))), some (.inr (.inl (some 314))), some (.inr (.inl (some 315))), some (.inl x5), none, none, none]) ⟨rfl, ⟨rfl, ⟨rfl, ⟨rfl, ⟨rfl, ⟨rfl, ⟨True.intro, ⟨True.intro, ⟨True.intro, True.intro⟩⟩⟩⟩⟩⟩⟩⟩⟩ ?_
      exact h
    · replace h := h.2 q2
      refine nw_aload_n l_L_law_2342 2343 rfl rfl ?_
      refine nw_iconst (len := 0) l_L_law_2343 2344 rfl c_0 ?_
      refine nw_lald l_L_law_2344 2345 rfl k_314 ⟨by decide, by decide⟩ (v := L 314 0) rfl ?_
      refine nw_iload l_L_law_2345 2347 rfl rfl ?_
      refine nw_i2l l_L_law_2347 2348 rfl ?_
      refine nw_lcmp l_L_law_2348 2349 rfl ?_
      refine nw_if_eq l_L_law_2349 2352 rfl (fun q3 => ?_) (fun q3 => ?_)
      · replace h := h.1 q3
        refine nw_goto l_L_law_2354 ?_
        refine nw_drop (ls' := [some (.inr (.inl (some 1000000))), some (.inr (.inl (some 0))), some (.inr (.inl (some 303))), some (.inr (.inl (some 314))), some (.inr (.inl (some 315))), some (.inl x5), none, none, none]) ⟨rfl, ⟨rfl, ⟨rfl, ⟨rfl, ⟨rfl, ⟨rfl, ⟨True.intro, ⟨True.intro, ⟨True.intro, True.intro⟩⟩⟩⟩⟩⟩⟩⟩⟩ ?_
        exact h
      · replace h := h.2 q3
        refine nw_iconst (len := 0) l_L_law_2352 2353 rfl c_0 ?_
        refine nw_ireturnZ l_L_law_2353 rfl (Or.inl rfl) ?_
        exact h
  · replace h := h.2 q1
    refine nw_iconst (len := 0) l_L_law_2335 2336 rfl c_0 ?_
    refine nw_ireturnZ l_L_law_2336 rfl (Or.inl rfl) ?_
    exact h
theorem b_L_law_2377 {x5 : Int} {y0 : Int} {y1 : Int} (h : ((y1 = y0 → NW sc d_L_law D (3300, [some (.inr (.inl (some 1000000))), some (.inr (.inl (some 0))), some (.inr (.inl (some 303))), some (.inr (.inl (some 314))), some (.inr (.inl (some 315))), some (.inl x5), none, none, none], [], (J, L, W), c, sl) Qr Qx) ∧ (¬ y1 = y0 → Qr (some (.inl 0)) (J, L, W)))) :
    NW sc d_L_law D (2377, [some (.inr (.inl (some 1000000))), some (.inr (.inl (some 0))), some (.inr (.inl (some 303))), some (.inr (.inl (some 314))), some (.inr (.inl (some 315))), some (.inl x5), none, none, none], [.inl y0, .inl y1], (J, L, W), c, sl) Qr Qx := by
  refine nw_ic_eq l_L_law_2377 2380 rfl (fun q1 => ?_) (fun q1 => ?_)
  · replace h := h.1 q1
    exact h
  · replace h := h.2 q1
    refine nw_iconst (len := 0) l_L_law_2380 2381 rfl c_0 ?_
    refine nw_ireturnZ l_L_law_2381 rfl (Or.inl rfl) ?_
    exact h
theorem b_L_law_2402 {x5 : Int} {y0 : Int} {y1 : Int} (h : ((y1 = y0 → NW sc d_L_law D (3300, [some (.inr (.inl (some 1000000))), some (.inr (.inl (some 0))), some (.inr (.inl (some 303))), some (.inr (.inl (some 314))), some (.inr (.inl (some 315))), some (.inl x5), none, none, none], [], (J, L, W), c, sl) Qr Qx) ∧ (¬ y1 = y0 → Qr (some (.inl 0)) (J, L, W)))) :
    NW sc d_L_law D (2402, [some (.inr (.inl (some 1000000))), some (.inr (.inl (some 0))), some (.inr (.inl (some 303))), some (.inr (.inl (some 314))), some (.inr (.inl (some 315))), some (.inl x5), none, none, none], [.inl y0, .inl y1], (J, L, W), c, sl) Qr Qx := by
  refine nw_ic_eq l_L_law_2402 2405 rfl (fun q1 => ?_) (fun q1 => ?_)
  · replace h := h.1 q1
    exact h
  · replace h := h.2 q1
    refine nw_iconst (len := 0) l_L_law_2405 2406 rfl c_0 ?_
    refine nw_ireturnZ l_L_law_2406 rfl (Or.inl rfl) ?_
    exact h
theorem b_L_law_2430 {x5 : Int} {x6 : Int} {y0 : Int} (hD : 18 ≤ D) (h : ((J 303 13 = x6 → ((¬ x6 = 0 → NW sc d_L_law D (3300, [some (.inr (.inl (some 1000000))), some (.inr (.inl (some 0))), some (.inr (.inl (some 303))), some (.inr (.inl (some 314))), some (.inr (.inl (some 315))), some (.inl x5), none, none, none], [], (J, L, W), c, sl) Qr Qx) ∧ (x6 = 0 → ((nw_cmp3 (L 314 0) y0 = 0 → NW sc d_L_law D (3300, [some (.inr (.inl (some 1000000))), some (.inr (.inl (some 0))), some (.inr (.inl (some 303))), some (.inr (.inl (some 314))), some (.inr (.inl (some 315))), some (.inl x5), none, none, none], [], (J, L, W), c, sl) Qr Qx) ∧ (¬ nw_cmp3 (L 314 0) y0 = 0 → Qr (some (.inl 0)) (J, L, W)))))) ∧ (¬ J 303 13 = x6 → Qr (some (.inl 0)) (J, L, W)))) :
    NW sc d_L_law D (2430, [some (.inr (.inl (some 1000000))), some (.inr (.inl (some 0))), some (.inr (.inl (some 303))), some (.inr (.inl (some 314))), some (.inr (.inl (some 315))), some (.inl x5), some (.inl x6), none, none], [.inl y0], (J, L, W), c, sl) Qr Qx := by
  refine nw_istore l_L_law_2430 2432 rfl rfl (ls' := [some (.inr (.inl (some 1000000))), some (.inr (.inl (some 0))), some (.inr (.inl (some 303))), some (.inr (.inl (some 314))), some (.inr (.inl (some 315))), some (.inl x5), some (.inl x6), some (.inl y0), none]) rfl ?_
  refine nw_aload_n l_L_law_2432 2433 rfl rfl ?_
  refine nw_call0 0 303 l_L_law_2433 rfl rfl g_X12_thrown (Nat.lt_of_lt_of_le (by decide) hD) rfl (Or.inl ⟨_, rfl, k_303⟩) (ls' := [some (.inr (.inl (some 303)))]) rfl (st' := []) rfl 2436 rfl ?_
  refine nw_aload_n l_X12_thrown_0 1 rfl rfl ?_
  refine nw_getI l_X12_thrown_1 4 rfl k_303 (v := J 303 13) rfl ?_
  refine nw_ireturn l_X12_thrown_4 rfl ?_
  refine nw_iload l_L_law_2436 2438 rfl rfl ?_
  refine nw_ic_eq l_L_law_2438 2441 rfl (fun q1 => ?_) (fun q1 => ?_)
  · replace h := h.1 q1
    refine nw_iload l_L_law_2443 2445 rfl rfl ?_
    refine nw_if_ne l_L_law_2445 2448 rfl (fun q2 => ?_) (fun q2 => ?_)
    · replace h := h.1 q2
      refine nw_goto l_L_law_2460 ?_
      refine nw_drop (ls' := [some (.inr (.inl (some 1000000))), some (.inr (.inl (some 0))), some (.inr (.inl (some 303))), some (.inr (.inl (some 314))), some (.inr (.inl (some 315))), some (.inl x5), none, none, none]) ⟨rfl, ⟨rfl, ⟨rfl, ⟨rfl, ⟨rfl, ⟨rfl, ⟨True.intro, ⟨True.intro, ⟨True.intro, True.intro⟩⟩⟩⟩⟩⟩⟩⟩⟩ ?_
      exact h
    · replace h := h.2 q2
      refine nw_aload_n l_L_law_2448 2449 rfl rfl ?_
      refine nw_iconst (len := 0) l_L_law_2449 2450 rfl c_0 ?_
      refine nw_lald l_L_law_2450 2451 rfl k_314 ⟨by decide, by decide⟩ (v := L 314 0) rfl ?_
      refine nw_iload l_L_law_2451 2453 rfl rfl ?_
      refine nw_i2l l_L_law_2453 2454 rfl ?_
      refine nw_lcmp l_L_law_2454 2455 rfl ?_
      refine nw_if_eq l_L_law_2455 2458 rfl (fun q3 => ?_) (fun q3 => ?_)
      · replace h := h.1 q3
        refine nw_goto l_L_law_2460 ?_
        refine nw_drop (ls' := [some (.inr (.inl (some 1000000))), some (.inr (.inl (some 0))), some (.inr (.inl (some 303))), some (.inr (.inl (some 314))), some (.inr (.inl (some 315))), some (.inl x5), none, none, none]) ⟨rfl, ⟨rfl, ⟨rfl, ⟨rfl, ⟨rfl, ⟨rfl, ⟨True.intro, ⟨True.intro, ⟨True.intro, True.intro⟩⟩⟩⟩⟩⟩⟩⟩⟩ ?_
        exact h
      · replace h := h.2 q3
        refine nw_iconst (len := 0) l_L_law_2458 2459 rfl c_0 ?_
        refine nw_ireturnZ l_L_law_2459 rfl (Or.inl rfl) ?_
        exact h
  · replace h := h.2 q1
    refine nw_iconst (len := 0) l_L_law_2441 2442 rfl c_0 ?_
    refine nw_ireturnZ l_L_law_2442 rfl (Or.inl rfl) ?_
    exact h
theorem b_L_law_2471 {x5 : Int} {y0 : Int} {y1 : Int} (h : ((y1 = y0 → NW sc d_L_law D (3300, [some (.inr (.inl (some 1000000))), some (.inr (.inl (some 0))), some (.inr (.inl (some 303))), some (.inr (.inl (some 314))), some (.inr (.inl (some 315))), some (.inl x5), none, none, none], [], (J, L, W), c, sl) Qr Qx) ∧ (¬ y1 = y0 → Qr (some (.inl 0)) (J, L, W)))) :
    NW sc d_L_law D (2471, [some (.inr (.inl (some 1000000))), some (.inr (.inl (some 0))), some (.inr (.inl (some 303))), some (.inr (.inl (some 314))), some (.inr (.inl (some 315))), some (.inl x5), none, none, none], [.inl y0, .inl y1], (J, L, W), c, sl) Qr Qx := by
  refine nw_ic_eq l_L_law_2471 2474 rfl (fun q1 => ?_) (fun q1 => ?_)
  · replace h := h.1 q1
    exact h
  · replace h := h.2 q1
    refine nw_iconst (len := 0) l_L_law_2474 2475 rfl c_0 ?_
    refine nw_ireturnZ l_L_law_2475 rfl (Or.inl rfl) ?_
    exact h
theorem b_L_law_2487 {x5 : Int} {x6 : Int} {y0 : Int} (hD : 18 ≤ D) (h : ((J 303 13 = x6 → ((¬ x6 = 0 → NW sc d_L_law D (3300, [some (.inr (.inl (some 1000000))), some (.inr (.inl (some 0))), some (.inr (.inl (some 303))), some (.inr (.inl (some 314))), some (.inr (.inl (some 315))), some (.inl x5), none, none, none], [], (J, L, W), c, sl) Qr Qx) ∧ (x6 = 0 → ((nw_cmp3 (L 314 0) y0 = 0 → NW sc d_L_law D (3300, [some (.inr (.inl (some 1000000))), some (.inr (.inl (some 0))), some (.inr (.inl (some 303))), some (.inr (.inl (some 314))), some (.inr (.inl (some 315))), some (.inl x5), none, none, none], [], (J, L, W), c, sl) Qr Qx) ∧ (¬ nw_cmp3 (L 314 0) y0 = 0 → Qr (some (.inl 0)) (J, L, W)))))) ∧ (¬ J 303 13 = x6 → Qr (some (.inl 0)) (J, L, W)))) :
    NW sc d_L_law D (2487, [some (.inr (.inl (some 1000000))), some (.inr (.inl (some 0))), some (.inr (.inl (some 303))), some (.inr (.inl (some 314))), some (.inr (.inl (some 315))), some (.inl x5), some (.inl x6), none, none], [.inl y0], (J, L, W), c, sl) Qr Qx := by
  refine nw_istore l_L_law_2487 2489 rfl rfl (ls' := [some (.inr (.inl (some 1000000))), some (.inr (.inl (some 0))), some (.inr (.inl (some 303))), some (.inr (.inl (some 314))), some (.inr (.inl (some 315))), some (.inl x5), some (.inl x6), some (.inl y0), none]) rfl ?_
  refine nw_aload_n l_L_law_2489 2490 rfl rfl ?_
  refine nw_call0 0 303 l_L_law_2490 rfl rfl g_X12_thrown (Nat.lt_of_lt_of_le (by decide) hD) rfl (Or.inl ⟨_, rfl, k_303⟩) (ls' := [some (.inr (.inl (some 303)))]) rfl (st' := []) rfl 2493 rfl ?_
  refine nw_aload_n l_X12_thrown_0 1 rfl rfl ?_
  refine nw_getI l_X12_thrown_1 4 rfl k_303 (v := J 303 13) rfl ?_
  refine nw_ireturn l_X12_thrown_4 rfl ?_
  refine nw_iload l_L_law_2493 2495 rfl rfl ?_
  refine nw_ic_eq l_L_law_2495 2498 rfl (fun q1 => ?_) (fun q1 => ?_)
  · replace h := h.1 q1
    refine nw_iload l_L_law_2500 2502 rfl rfl ?_
    refine nw_if_ne l_L_law_2502 2505 rfl (fun q2 => ?_) (fun q2 => ?_)
    · replace h := h.1 q2
      refine nw_goto l_L_law_2517 ?_
      refine nw_drop (ls' := [some (.inr (.inl (some 1000000))), some (.inr (.inl (some 0))), some (.inr (.inl (some 303))), some (.inr (.inl (some 314))), some (.inr (.inl (some 315))), some (.inl x5), none, none, none]) ⟨rfl, ⟨rfl, ⟨rfl, ⟨rfl, ⟨rfl, ⟨rfl, ⟨True.intro, ⟨True.intro, ⟨True.intro, True.intro⟩⟩⟩⟩⟩⟩⟩⟩⟩ ?_
      exact h
    · replace h := h.2 q2
      refine nw_aload_n l_L_law_2505 2506 rfl rfl ?_
      refine nw_iconst (len := 0) l_L_law_2506 2507 rfl c_0 ?_
      refine nw_lald l_L_law_2507 2508 rfl k_314 ⟨by decide, by decide⟩ (v := L 314 0) rfl ?_
      refine nw_iload l_L_law_2508 2510 rfl rfl ?_
      refine nw_i2l l_L_law_2510 2511 rfl ?_
      refine nw_lcmp l_L_law_2511 2512 rfl ?_
      refine nw_if_eq l_L_law_2512 2515 rfl (fun q3 => ?_) (fun q3 => ?_)
      · replace h := h.1 q3
        refine nw_goto l_L_law_2517 ?_
        refine nw_drop (ls' := [some (.inr (.inl (some 1000000))), some (.inr (.inl (some 0))), some (.inr (.inl (some 303))), some (.inr (.inl (some 314))), some (.inr (.inl (some 315))), some (.inl x5), none, none, none]) ⟨rfl, ⟨rfl, ⟨rfl, ⟨rfl, ⟨rfl, ⟨rfl, ⟨True.intro, ⟨True.intro, ⟨True.intro, True.intro⟩⟩⟩⟩⟩⟩⟩⟩⟩ ?_
        exact h
      · replace h := h.2 q3
        refine nw_iconst (len := 0) l_L_law_2515 2516 rfl c_0 ?_
        refine nw_ireturnZ l_L_law_2516 rfl (Or.inl rfl) ?_
        exact h
  · replace h := h.2 q1
    refine nw_iconst (len := 0) l_L_law_2498 2499 rfl c_0 ?_
    refine nw_ireturnZ l_L_law_2499 rfl (Or.inl rfl) ?_
    exact h
theorem b_L_law_2528 {x5 : Int} {y0 : Int} {y1 : Int} (h : ((y1 = y0 → NW sc d_L_law D (3300, [some (.inr (.inl (some 1000000))), some (.inr (.inl (some 0))), some (.inr (.inl (some 303))), some (.inr (.inl (some 314))), some (.inr (.inl (some 315))), some (.inl x5), none, none, none], [], (J, L, W), c, sl) Qr Qx) ∧ (¬ y1 = y0 → Qr (some (.inl 0)) (J, L, W)))) :
    NW sc d_L_law D (2528, [some (.inr (.inl (some 1000000))), some (.inr (.inl (some 0))), some (.inr (.inl (some 303))), some (.inr (.inl (some 314))), some (.inr (.inl (some 315))), some (.inl x5), none, none, none], [.inl y0, .inl y1], (J, L, W), c, sl) Qr Qx := by
  refine nw_ic_eq l_L_law_2528 2531 rfl (fun q1 => ?_) (fun q1 => ?_)
  · replace h := h.1 q1
    exact h
  · replace h := h.2 q1
    refine nw_iconst (len := 0) l_L_law_2531 2532 rfl c_0 ?_
    refine nw_ireturnZ l_L_law_2532 rfl (Or.inl rfl) ?_
    exact h
theorem b_L_law_2556 {x5 : Int} {x6 : Int} {y0 : Int} (hD : 18 ≤ D) (h : ((J 303 13 = x6 → ((¬ x6 = 0 → NW sc d_L_law D (3300, [some (.inr (.inl (some 1000000))), some (.inr (.inl (some 0))), some (.inr (.inl (some 303))), some (.inr (.inl (some 314))), some (.inr (.inl (some 315))), some (.inl x5), none, none, none], [], (J, L, W), c, sl) Qr Qx) ∧ (x6 = 0 → ((nw_cmp3 (L 314 0) y0 = 0 → NW sc d_L_law D (3300, [some (.inr (.inl (some 1000000))), some (.inr (.inl (some 0))), some (.inr (.inl (some 303))), some (.inr (.inl (some 314))), some (.inr (.inl (some 315))), some (.inl x5), none, none, none], [], (J, L, W), c, sl) Qr Qx) ∧ (¬ nw_cmp3 (L 314 0) y0 = 0 → Qr (some (.inl 0)) (J, L, W)))))) ∧ (¬ J 303 13 = x6 → Qr (some (.inl 0)) (J, L, W)))) :
    NW sc d_L_law D (2556, [some (.inr (.inl (some 1000000))), some (.inr (.inl (some 0))), some (.inr (.inl (some 303))), some (.inr (.inl (some 314))), some (.inr (.inl (some 315))), some (.inl x5), some (.inl x6), none, none], [.inl y0], (J, L, W), c, sl) Qr Qx := by
  refine nw_istore l_L_law_2556 2558 rfl rfl (ls' := [some (.inr (.inl (some 1000000))), some (.inr (.inl (some 0))), some (.inr (.inl (some 303))), some (.inr (.inl (some 314))), some (.inr (.inl (some 315))), some (.inl x5), some (.inl x6), some (.inl y0), none]) rfl ?_
  refine nw_aload_n l_L_law_2558 2559 rfl rfl ?_
  refine nw_call0 0 303 l_L_law_2559 rfl rfl g_X12_thrown (Nat.lt_of_lt_of_le (by decide) hD) rfl (Or.inl ⟨_, rfl, k_303⟩) (ls' := [some (.inr (.inl (some 303)))]) rfl (st' := []) rfl 2562 rfl ?_
  refine nw_aload_n l_X12_thrown_0 1 rfl rfl ?_
  refine nw_getI l_X12_thrown_1 4 rfl k_303 (v := J 303 13) rfl ?_
  refine nw_ireturn l_X12_thrown_4 rfl ?_
  refine nw_iload l_L_law_2562 2564 rfl rfl ?_
  refine nw_ic_eq l_L_law_2564 2567 rfl (fun q1 => ?_) (fun q1 => ?_)
  · replace h := h.1 q1
    refine nw_iload l_L_law_2569 2571 rfl rfl ?_
    refine nw_if_ne l_L_law_2571 2574 rfl (fun q2 => ?_) (fun q2 => ?_)
    · replace h := h.1 q2
      refine nw_goto l_L_law_2586 ?_
      refine nw_drop (ls' := [some (.inr (.inl (some 1000000))), some (.inr (.inl (some 0))), some (.inr (.inl (some 303))), some (.inr (.inl (some 314))), some (.inr (.inl (some 315))), some (.inl x5), none, none, none]) ⟨rfl, ⟨rfl, ⟨rfl, ⟨rfl, ⟨rfl, ⟨rfl, ⟨True.intro, ⟨True.intro, ⟨True.intro, True.intro⟩⟩⟩⟩⟩⟩⟩⟩⟩ ?_
      exact h
    · replace h := h.2 q2
      refine nw_aload_n l_L_law_2574 2575 rfl rfl ?_
      refine nw_iconst (len := 0) l_L_law_2575 2576 rfl c_0 ?_
      refine nw_lald l_L_law_2576 2577 rfl k_314 ⟨by decide, by decide⟩ (v := L 314 0) rfl ?_
      refine nw_iload l_L_law_2577 2579 rfl rfl ?_
      refine nw_i2l l_L_law_2579 2580 rfl ?_
      refine nw_lcmp l_L_law_2580 2581 rfl ?_
      refine nw_if_eq l_L_law_2581 2584 rfl (fun q3 => ?_) (fun q3 => ?_)
      · replace h := h.1 q3
        refine nw_goto l_L_law_2586 ?_
        refine nw_drop (ls' := [some (.inr (.inl (some 1000000))), some (.inr (.inl (some 0))), some (.inr (.inl (some 303))), some (.inr (.inl (some 314))), some (.inr (.inl (some 315))), some (.inl x5), none, none, none]) ⟨rfl, ⟨rfl, ⟨rfl, ⟨rfl, ⟨rfl, ⟨rfl, ⟨True.intro, ⟨True.intro, ⟨True.intro, True.intro⟩⟩⟩⟩⟩⟩⟩⟩⟩ ?_
        exact h
      · replace h := h.2 q3
        refine nw_iconst (len := 0) l_L_law_2584 2585 rfl c_0 ?_
        refine nw_ireturnZ l_L_law_2585 rfl (Or.inl rfl) ?_
        exact h
  · replace h := h.2 q1
    refine nw_iconst (len := 0) l_L_law_2567 2568 rfl c_0 ?_
    refine nw_ireturnZ l_L_law_2568 rfl (Or.inl rfl) ?_
    exact h
theorem b_L_law_2612 {x5 : Int} {x6 : Int} {y0 : Int} (hD : 18 ≤ D) (h : ((J 303 13 = x6 → ((¬ x6 = 0 → NW sc d_L_law D (3300, [some (.inr (.inl (some 1000000))), some (.inr (.inl (some 0))), some (.inr (.inl (some 303))), some (.inr (.inl (some 314))), some (.inr (.inl (some 315))), some (.inl x5), none, none, none], [], (J, L, W), c, sl) Qr Qx) ∧ (x6 = 0 → ((nw_cmp3 (L 314 0) y0 = 0 → NW sc d_L_law D (3300, [some (.inr (.inl (some 1000000))), some (.inr (.inl (some 0))), some (.inr (.inl (some 303))), some (.inr (.inl (some 314))), some (.inr (.inl (some 315))), some (.inl x5), none, none, none], [], (J, L, W), c, sl) Qr Qx) ∧ (¬ nw_cmp3 (L 314 0) y0 = 0 → Qr (some (.inl 0)) (J, L, W)))))) ∧ (¬ J 303 13 = x6 → Qr (some (.inl 0)) (J, L, W)))) :
    NW sc d_L_law D (2612, [some (.inr (.inl (some 1000000))), some (.inr (.inl (some 0))), some (.inr (.inl (some 303))), some (.inr (.inl (some 314))), some (.inr (.inl (some 315))), some (.inl x5), some (.inl x6), none, none], [.inl y0], (J, L, W), c, sl) Qr Qx := by
  refine nw_istore l_L_law_2612 2614 rfl rfl (ls' := [some (.inr (.inl (some 1000000))), some (.inr (.inl (some 0))), some (.inr (.inl (some 303))), some (.inr (.inl (some 314))), some (.inr (.inl (some 315))), some (.inl x5), some (.inl x6), some (.inl y0), none]) rfl ?_
  refine nw_aload_n l_L_law_2614 2615 rfl rfl ?_
  refine nw_call0 0 303 l_L_law_2615 rfl rfl g_X12_thrown (Nat.lt_of_lt_of_le (by decide) hD) rfl (Or.inl ⟨_, rfl, k_303⟩) (ls' := [some (.inr (.inl (some 303)))]) rfl (st' := []) rfl 2618 rfl ?_
  refine nw_aload_n l_X12_thrown_0 1 rfl rfl ?_
  refine nw_getI l_X12_thrown_1 4 rfl k_303 (v := J 303 13) rfl ?_
  refine nw_ireturn l_X12_thrown_4 rfl ?_
  refine nw_iload l_L_law_2618 2620 rfl rfl ?_
  refine nw_ic_eq l_L_law_2620 2623 rfl (fun q1 => ?_) (fun q1 => ?_)
  · replace h := h.1 q1
    refine nw_iload l_L_law_2625 2627 rfl rfl ?_
    refine nw_if_ne l_L_law_2627 2630 rfl (fun q2 => ?_) (fun q2 => ?_)
    · replace h := h.1 q2
      refine nw_goto l_L_law_2642 ?_
      refine nw_drop (ls' := [some (.inr (.inl (some 1000000))), some (.inr (.inl (some 0))), some (.inr (.inl (some 303))), some (.inr (.inl (some 314))), some (.inr (.inl (some 315))), some (.inl x5), none, none, none]) ⟨rfl, ⟨rfl, ⟨rfl, ⟨rfl, ⟨rfl, ⟨rfl, ⟨True.intro, ⟨True.intro, ⟨True.intro, True.intro⟩⟩⟩⟩⟩⟩⟩⟩⟩ ?_
      exact h
    · replace h := h.2 q2
      refine nw_aload_n l_L_law_2630 2631 rfl rfl ?_
      refine nw_iconst (len := 0) l_L_law_2631 2632 rfl c_0 ?_
      refine nw_lald l_L_law_2632 2633 rfl k_314 ⟨by decide, by decide⟩ (v := L 314 0) rfl ?_
      refine nw_iload l_L_law_2633 2635 rfl rfl ?_
      refine nw_i2l l_L_law_2635 2636 rfl ?_
      refine nw_lcmp l_L_law_2636 2637 rfl ?_
      refine nw_if_eq l_L_law_2637 2640 rfl (fun q3 => ?_) (fun q3 => ?_)
      · replace h := h.1 q3
        refine nw_goto l_L_law_2642 ?_
        refine nw_drop (ls' := [some (.inr (.inl (some 1000000))), some (.inr (.inl (some 0))), some (.inr (.inl (some 303))), some (.inr (.inl (some 314))), some (.inr (.inl (some 315))), some (.inl x5), none, none, none]) ⟨rfl, ⟨rfl, ⟨rfl, ⟨rfl, ⟨rfl, ⟨rfl, ⟨True.intro, ⟨True.intro, ⟨True.intro, True.intro⟩⟩⟩⟩⟩⟩⟩⟩⟩ ?_
        exact h
      · replace h := h.2 q3
        refine nw_iconst (len := 0) l_L_law_2640 2641 rfl c_0 ?_
        refine nw_ireturnZ l_L_law_2641 rfl (Or.inl rfl) ?_
        exact h
  · replace h := h.2 q1
    refine nw_iconst (len := 0) l_L_law_2623 2624 rfl c_0 ?_
    refine nw_ireturnZ l_L_law_2624 rfl (Or.inl rfl) ?_
    exact h
theorem b_L_law_2668 {x5 : Int} {x6 : Int} {y0 : Int} (hD : 18 ≤ D) (h : ((J 303 13 = x6 → ((¬ x6 = 0 → NW sc d_L_law D (3300, [some (.inr (.inl (some 1000000))), some (.inr (.inl (some 0))), some (.inr (.inl (some 303))), some (.inr (.inl (some 314))), some (.inr (.inl (some 315))), some (.inl x5), none, none, none], [], (J, L, W), c, sl) Qr Qx) ∧ (x6 = 0 → ((nw_cmp3 (L 314 0) y0 = 0 → NW sc d_L_law D (3300, [some (.inr (.inl (some 1000000))), some (.inr (.inl (some 0))), some (.inr (.inl (some 303))), some (.inr (.inl (some 314))), some (.inr (.inl (some 315))), some (.inl x5), none, none, none], [], (J, L, W), c, sl) Qr Qx) ∧ (¬ nw_cmp3 (L 314 0) y0 = 0 → Qr (some (.inl 0)) (J, L, W)))))) ∧ (¬ J 303 13 = x6 → Qr (some (.inl 0)) (J, L, W)))) :
    NW sc d_L_law D (2668, [some (.inr (.inl (some 1000000))), some (.inr (.inl (some 0))), some (.inr (.inl (some 303))), some (.inr (.inl (some 314))), some (.inr (.inl (some 315))), some (.inl x5), some (.inl x6), none, none], [.inl y0], (J, L, W), c, sl) Qr Qx := by
  refine nw_istore l_L_law_2668 2670 rfl rfl (ls' := [some (.inr (.inl (some 1000000))), some (.inr (.inl (some 0))), some (.inr (.inl (some 303))), some (.inr (.inl (some 314))), some (.inr (.inl (some 315))), some (.inl x5), some (.inl x6), some (.inl y0), none]) rfl ?_
  refine nw_aload_n l_L_law_2670 2671 rfl rfl ?_
  refine nw_call0 0 303 l_L_law_2671 rfl rfl g_X12_thrown (Nat.lt_of_lt_of_le (by decide) hD) rfl (Or.inl ⟨_, rfl, k_303⟩) (ls' := [some (.inr (.inl (some 303)))]) rfl (st' := []) rfl 2674 rfl ?_
  refine nw_aload_n l_X12_thrown_0 1 rfl rfl ?_
  refine nw_getI l_X12_thrown_1 4 rfl k_303 (v := J 303 13) rfl ?_
  refine nw_ireturn l_X12_thrown_4 rfl ?_
  refine nw_iload l_L_law_2674 2676 rfl rfl ?_
  refine nw_ic_eq l_L_law_2676 2679 rfl (fun q1 => ?_) (fun q1 => ?_)
  · replace h := h.1 q1
    refine nw_iload l_L_law_2681 2683 rfl rfl ?_
    refine nw_if_ne l_L_law_2683 2686 rfl (fun q2 => ?_) (fun q2 => ?_)
    · replace h := h.1 q2
      refine nw_goto l_L_law_2698 ?_
      refine nw_drop (ls' := [some (.inr (.inl (some 1000000))), some (.inr (.inl (some 0))), some (.inr (.inl (some 303))), some (.inr (.inl (some 314))), some (.inr (.inl (some 315))), some (.inl x5), none, none, none]) ⟨rfl, ⟨rfl, ⟨rfl, ⟨rfl, ⟨rfl, ⟨rfl, ⟨True.intro, ⟨True.intro, ⟨True.intro, True.intro⟩⟩⟩⟩⟩⟩⟩⟩⟩ ?_
      exact h
    · replace h := h.2 q2
      refine nw_aload_n l_L_law_2686 2687 rfl rfl ?_
      refine nw_iconst (len := 0) l_L_law_2687 2688 rfl c_0 ?_
      refine nw_lald l_L_law_2688 2689 rfl k_314 ⟨by decide, by decide⟩ (v := L 314 0) rfl ?_
      refine nw_iload l_L_law_2689 2691 rfl rfl ?_
      refine nw_i2l l_L_law_2691 2692 rfl ?_
      refine nw_lcmp l_L_law_2692 2693 rfl ?_
      refine nw_if_eq l_L_law_2693 2696 rfl (fun q3 => ?_) (fun q3 => ?_)
      · replace h := h.1 q3
        refine nw_goto l_L_law_2698 ?_
        refine nw_drop (ls' := [some (.inr (.inl (some 1000000))), some (.inr (.inl (some 0))), some (.inr (.inl (some 303))), some (.inr (.inl (some 314))), some (.inr (.inl (some 315))), some (.inl x5), none, none, none]) ⟨rfl, ⟨rfl, ⟨rfl, ⟨rfl, ⟨rfl, ⟨rfl, ⟨True.intro, ⟨True.intro, ⟨True.intro, True.intro⟩⟩⟩⟩⟩⟩⟩⟩⟩ ?_
        exact h
      · replace h := h.2 q3
        refine nw_iconst (len := 0) l_L_law_2696 2697 rfl c_0 ?_
        refine nw_ireturnZ l_L_law_2697 rfl (Or.inl rfl) ?_
        exact h
  · replace h := h.2 q1
    refine nw_iconst (len := 0) l_L_law_2679 2680 rfl c_0 ?_
    refine nw_ireturnZ l_L_law_2680 rfl (Or.inl rfl) ?_
    exact h
theorem b_L_law_2709 {x5 : Int} {y0 : Int} {y1 : Int} (h : ((y1 = y0 → NW sc d_L_law D (3300, [some (.inr (.inl (some 1000000))), some (.inr (.inl (some 0))), some (.inr (.inl (some 303))), some (.inr (.inl (some 314))), some (.inr (.inl (some 315))), some (.inl x5), none, none, none], [], (J, L, W), c, sl) Qr Qx) ∧ (¬ y1 = y0 → Qr (some (.inl 0)) (J, L, W)))) :
    NW sc d_L_law D (2709, [some (.inr (.inl (some 1000000))), some (.inr (.inl (some 0))), some (.inr (.inl (some 303))), some (.inr (.inl (some 314))), some (.inr (.inl (some 315))), some (.inl x5), none, none, none], [.inl y0, .inl y1], (J, L, W), c, sl) Qr Qx := by
  refine nw_ic_eq l_L_law_2709 2712 rfl (fun q1 => ?_) (fun q1 => ?_)
  · replace h := h.1 q1
    exact h
  · replace h := h.2 q1
    refine nw_iconst (len := 0) l_L_law_2712 2713 rfl c_0 ?_
    refine nw_ireturnZ l_L_law_2713 rfl (Or.inl rfl) ?_
    exact h
theorem b_L_law_2722 {x5 : Int} {y0 : Int} {y1 : Int} (h : ((nw_cmp3 y1 y0 = 0 → NW sc d_L_law D (3300, [some (.inr (.inl (some 1000000))), some (.inr (.inl (some 0))), some (.inr (.inl (some 303))), some (.inr (.inl (some 314))), some (.inr (.inl (some 315))), some (.inl x5), none, none, none], [], (J, L, W), c, sl) Qr Qx) ∧ (¬ nw_cmp3 y1 y0 = 0 → Qr (some (.inl 0)) (J, L, W)))) :
    NW sc d_L_law D (2722, [some (.inr (.inl (some 1000000))), some (.inr (.inl (some 0))), some (.inr (.inl (some 303))), some (.inr (.inl (some 314))), some (.inr (.inl (some 315))), some (.inl x5), none, none, none], [.inr (.inr (.inl y0)), .inr (.inr (.inl y1))], (J, L, W), c, sl) Qr Qx := by
  refine nw_lcmp l_L_law_2722 2723 rfl ?_
  refine nw_if_eq l_L_law_2723 2726 rfl (fun q1 => ?_) (fun q1 => ?_)
  · replace h := h.1 q1
    exact h
  · replace h := h.2 q1
    refine nw_iconst (len := 0) l_L_law_2726 2727 rfl c_0 ?_
    refine nw_ireturnZ l_L_law_2727 rfl (Or.inl rfl) ?_
    exact h
theorem b_L_law_2736 {x5 : Int} {y0 : Int} {y1 : Int} (h : ((y1 = y0 → NW sc d_L_law D (3300, [some (.inr (.inl (some 1000000))), some (.inr (.inl (some 0))), some (.inr (.inl (some 303))), some (.inr (.inl (some 314))), some (.inr (.inl (some 315))), some (.inl x5), none, none, none], [], (J, L, W), c, sl) Qr Qx) ∧ (¬ y1 = y0 → Qr (some (.inl 0)) (J, L, W)))) :
    NW sc d_L_law D (2736, [some (.inr (.inl (some 1000000))), some (.inr (.inl (some 0))), some (.inr (.inl (some 303))), some (.inr (.inl (some 314))), some (.inr (.inl (some 315))), some (.inl x5), none, none, none], [.inl y0, .inl y1], (J, L, W), c, sl) Qr Qx := by
  refine nw_ic_eq l_L_law_2736 2739 rfl (fun q1 => ?_) (fun q1 => ?_)
  · replace h := h.1 q1
    exact h
  · replace h := h.2 q1
    refine nw_iconst (len := 0) l_L_law_2739 2740 rfl c_0 ?_
    refine nw_ireturnZ l_L_law_2740 rfl (Or.inl rfl) ?_
    exact h
theorem b_L_law_2766 {x5 : Int} {x6 : Int} {y0 : Int} (hD : 18 ≤ D) (h : ((J 303 13 = x6 → ((¬ x6 = 0 → NW sc d_L_law D (3300, [some (.inr (.inl (some 1000000))), some (.inr (.inl (some 0))), some (.inr (.inl (some 303))), some (.inr (.inl (some 314))), some (.inr (.inl (some 315))), some (.inl x5), none, none, none], [], (J, L, W), c, sl) Qr Qx) ∧ (x6 = 0 → ((nw_cmp3 (L 314 0) y0 = 0 → NW sc d_L_law D (3300, [some (.inr (.inl (some 1000000))), some (.inr (.inl (some 0))), some (.inr (.inl (some 303))), some (.inr (.inl (some 314))), some (.inr (.inl (some 315))), some (.inl x5), none, none, none], [], (J, L, W), c, sl) Qr Qx) ∧ (¬ nw_cmp3 (L 314 0) y0 = 0 → Qr (some (.inl 0)) (J, L, W)))))) ∧ (¬ J 303 13 = x6 → Qr (some (.inl 0)) (J, L, W)))) :
    NW sc d_L_law D (2766, [some (.inr (.inl (some 1000000))), some (.inr (.inl (some 0))), some (.inr (.inl (some 303))), some (.inr (.inl (some 314))), some (.inr (.inl (some 315))), some (.inl x5), some (.inl x6), none, none], [.inl y0], (J, L, W), c, sl) Qr Qx := by
  refine nw_istore l_L_law_2766 2768 rfl rfl (ls' := [some (.inr (.inl (some 1000000))), some (.inr (.inl (some 0))), some (.inr (.inl (some 303))), some (.inr (.inl (some 314))), some (.inr (.inl (some 315))), some (.inl x5), some (.inl x6), some (.inl y0), none]) rfl ?_
  refine nw_aload_n l_L_law_2768 2769 rfl rfl ?_
  refine nw_call0 0 303 l_L_law_2769 rfl rfl g_X12_thrown (Nat.lt_of_lt_of_le (by decide) hD) rfl (Or.inl ⟨_, rfl, k_303⟩) (ls' := [some (.inr (.inl (some 303)))]) rfl (st' := []) rfl 2772 rfl ?_
  refine nw_aload_n l_X12_thrown_0 1 rfl rfl ?_
  refine nw_getI l_X12_thrown_1 4 rfl k_303 (v := J 303 13) rfl ?_
  refine nw_ireturn l_X12_thrown_4 rfl ?_
  refine nw_iload l_L_law_2772 2774 rfl rfl ?_
  refine nw_ic_eq l_L_law_2774 2777 rfl (fun q1 => ?_) (fun q1 => ?_)
  · replace h := h.1 q1
    refine nw_iload l_L_law_2779 2781 rfl rfl ?_
    refine nw_if_ne l_L_law_2781 2784 rfl (fun q2 => ?_) (fun q2 => ?_)
    · replace h := h.1 q2
      refine nw_goto l_L_law_2796 ?_
      refine nw_drop (ls' := [some (.inr (.inl (some 1000000))), some (.inr (.inl (some 0))), some (.inr (.inl (some 303))), some (.inr (.inl (some 314))), some (.inr (.inl (some 315))), some (.inl x5), none, none, none]) ⟨rfl, ⟨rfl, ⟨rfl, ⟨rfl, ⟨rfl, ⟨rfl, ⟨True.intro, ⟨True.intro, ⟨True.intro, True.intro⟩⟩⟩⟩⟩⟩⟩⟩⟩ ?_
      exact h
    · replace h := h.2 q2
      refine nw_aload_n l_L_law_2784 2785 rfl rfl ?_
      refine nw_iconst (len := 0) l_L_law_2785 2786 rfl c_0 ?_
      refine nw_lald l_L_law_2786 2787 rfl k_314 ⟨by decide, by decide⟩ (v := L 314 0) rfl ?_
      refine nw_iload l_L_law_2787 2789 rfl rfl ?_
      refine nw_i2l l_L_law_2789 2790 rfl ?_
      refine nw_lcmp l_L_law_2790 2791 rfl ?_
      refine nw_if_eq l_L_law_2791 2794 rfl (fun q3 => ?_) (fun q3 => ?_)
      · replace h := h.1 q3
        refine nw_goto l_L_law_2796 ?_
        refine nw_drop (ls' := [some (.inr (.inl (some 1000000))), some (.inr (.inl (some 0))), some (.inr (.inl (some 303))), some (.inr (.inl (some 314))), some (.inr (.inl (some 315))), some (.inl x5), none, none, none]) ⟨rfl, ⟨rfl, ⟨rfl, ⟨rfl, ⟨rfl, ⟨rfl, ⟨True.intro, ⟨True.intro, ⟨True.intro, True.intro⟩⟩⟩⟩⟩⟩⟩⟩⟩ ?_
        exact h
      · replace h := h.2 q3
        refine nw_iconst (len := 0) l_L_law_2794 2795 rfl c_0 ?_
        refine nw_ireturnZ l_L_law_2795 rfl (Or.inl rfl) ?_
        exact h
  · replace h := h.2 q1
    refine nw_iconst (len := 0) l_L_law_2777 2778 rfl c_0 ?_
    refine nw_ireturnZ l_L_law_2778 rfl (Or.inl rfl) ?_
    exact h
theorem b_L_law_2810 {x5 : Int} {x6 : Int} {y0 : Int} (hD : 18 ≤ D) (h : ((J 303 13 = x6 → ((¬ x6 = 0 → NW sc d_L_law D (3300, [some (.inr (.inl (some 1000000))), some (.inr (.inl (some 0))), some (.inr (.inl (some 303))), some (.inr (.inl (some 314))), some (.inr (.inl (some 315))), some (.inl x5), none, none, none], [], (J, L, W), c, sl) Qr Qx) ∧ (x6 = 0 → ((nw_cmp3 (L 314 0) y0 = 0 → NW sc d_L_law D (3300, [some (.inr (.inl (some 1000000))), some (.inr (.inl (some 0))), some (.inr (.inl (some 303))), some (.inr (.inl (some 314))), some (.inr (.inl (some 315))), some (.inl x5), none, none, none], [], (J, L, W), c, sl) Qr Qx) ∧ (¬ nw_cmp3 (L 314 0) y0 = 0 → Qr (some (.inl 0)) (J, L, W)))))) ∧ (¬ J 303 13 = x6 → Qr (some (.inl 0)) (J, L, W)))) :
    NW sc d_L_law D (2810, [some (.inr (.inl (some 1000000))), some (.inr (.inl (some 0))), some (.inr (.inl (some 303))), some (.inr (.inl (some 314))), some (.inr (.inl (some 315))), some (.inl x5), some (.inl x6), none, none], [.inl y0], (J, L, W), c, sl) Qr Qx := by
  refine nw_istore l_L_law_2810 2812 rfl rfl (ls' := [some (.inr (.inl (some 1000000))), some (.inr (.inl (some 0))), some (.inr (.inl (some 303))), some (.inr (.inl (some 314))), some (.inr (.inl (some 315))), some (.inl x5), some (.inl x6), some (.inl y0), none]) rfl ?_
  refine nw_aload_n l_L_law_2812 2813 rfl rfl ?_
  refine nw_call0 0 303 l_L_law_2813 rfl rfl g_X12_thrown (Nat.lt_of_lt_of_le (by decide) hD) rfl (Or.inl ⟨_, rfl, k_303⟩) (ls' := [some (.inr (.inl (some 303)))]) rfl (st' := []) rfl 2816 rfl ?_
  refine nw_aload_n l_X12_thrown_0 1 rfl rfl ?_
  refine nw_getI l_X12_thrown_1 4 rfl k_303 (v := J 303 13) rfl ?_
  refine nw_ireturn l_X12_thrown_4 rfl ?_
  refine nw_iload l_L_law_2816 2818 rfl rfl ?_
  refine nw_ic_eq l_L_law_2818 2821 rfl (fun q1 => ?_) (fun q1 => ?_)
  · replace h := h.1 q1
    refine nw_iload l_L_law_2823 2825 rfl rfl ?_
    refine nw_if_ne l_L_law_2825 2828 rfl (fun q2 => ?_) (fun q2 => ?_)
    · replace h := h.1 q2
      refine nw_goto l_L_law_2840 ?_
      refine nw_drop (ls' := [some (.inr (.inl (some 1000000))), some (.inr (.inl (some 0))), some (.inr (.inl (some 303))), some (.inr (.inl (some 314))), some (.inr (.inl (some 315))), some (.inl x5), none, none, none]) ⟨rfl, ⟨rfl, ⟨rfl, ⟨rfl, ⟨rfl, ⟨rfl, ⟨True.intro, ⟨True.intro, ⟨True.intro, True.intro⟩⟩⟩⟩⟩⟩⟩⟩⟩ ?_
      exact h
    · replace h := h.2 q2
      refine nw_aload_n l_L_law_2828 2829 rfl rfl ?_
      refine nw_iconst (len := 0) l_L_law_2829 2830 rfl c_0 ?_
      refine nw_lald l_L_law_2830 2831 rfl k_314 ⟨by decide, by decide⟩ (v := L 314 0) rfl ?_
      refine nw_iload l_L_law_2831 2833 rfl rfl ?_
      refine nw_i2l l_L_law_2833 2834 rfl ?_
      refine nw_lcmp l_L_law_2834 2835 rfl ?_
      refine nw_if_eq l_L_law_2835 2838 rfl (fun q3 => ?_) (fun q3 => ?_)
      · replace h := h.1 q3
        refine nw_goto l_L_law_2840 ?_
        refine nw_drop (ls' := [some (.inr (.inl (some 1000000))), some (.inr (.inl (some 0))), some (.inr (.inl (some 303))), some (.inr (.inl (some 314))), some (.inr (.inl (some 315))), some (.inl x5), none, none, none]) ⟨rfl, ⟨rfl, ⟨rfl, ⟨rfl, ⟨rfl, ⟨rfl, ⟨True.intro, ⟨True.intro, ⟨True.intro, True.intro⟩⟩⟩⟩⟩⟩⟩⟩⟩ ?_
        exact h
      · replace h := h.2 q3
        refine nw_iconst (len := 0) l_L_law_2838 2839 rfl c_0 ?_
        refine nw_ireturnZ l_L_law_2839 rfl (Or.inl rfl) ?_
        exact h
  · replace h := h.2 q1
    refine nw_iconst (len := 0) l_L_law_2821 2822 rfl c_0 ?_
    refine nw_ireturnZ l_L_law_2822 rfl (Or.inl rfl) ?_
    exact h
theorem b_L_law_2854 {x5 : Int} {x6 : Int} {y0 : Int} (hD : 18 ≤ D) (h : ((J 303 13 = x6 → ((¬ x6 = 0 → NW sc d_L_law D (3300, [some (.inr (.inl (some 1000000))), some (.inr (.inl (some 0))), some (.inr (.inl (some 303))), some (.inr (.inl (some 314))), some (.inr (.inl (some 315))), some (.inl x5), none, none, none], [], (J, L, W), c, sl) Qr Qx) ∧ (x6 = 0 → ((nw_cmp3 (L 314 0) y0 = 0 → NW sc d_L_law D (3300, [some (.inr (.inl (some 1000000))), some (.inr (.inl (some 0))), some (.inr (.inl (some 303))), some (.inr (.inl (some 314))), some (.inr (.inl (some 315))), some (.inl x5), none, none, none], [], (J, L, W), c, sl) Qr Qx) ∧ (¬ nw_cmp3 (L 314 0) y0 = 0 → Qr (some (.inl 0)) (J, L, W)))))) ∧ (¬ J 303 13 = x6 → Qr (some (.inl 0)) (J, L, W)))) :
    NW sc d_L_law D (2854, [some (.inr (.inl (some 1000000))), some (.inr (.inl (some 0))), some (.inr (.inl (some 303))), some (.inr (.inl (some 314))), some (.inr (.inl (some 315))), some (.inl x5), some (.inl x6), none, none], [.inl y0], (J, L, W), c, sl) Qr Qx := by
  refine nw_istore l_L_law_2854 2856 rfl rfl (ls' := [some (.inr (.inl (some 1000000))), some (.inr (.inl (some 0))), some (.inr (.inl (some 303))), some (.inr (.inl (some 314))), some (.inr (.inl (some 315))), some (.inl x5), some (.inl x6), some (.inl y0), none]) rfl ?_
  refine nw_aload_n l_L_law_2856 2857 rfl rfl ?_
  refine nw_call0 0 303 l_L_law_2857 rfl rfl g_X12_thrown (Nat.lt_of_lt_of_le (by decide) hD) rfl (Or.inl ⟨_, rfl, k_303⟩) (ls' := [some (.inr (.inl (some 303)))]) rfl (st' := []) rfl 2860 rfl ?_
  refine nw_aload_n l_X12_thrown_0 1 rfl rfl ?_
  refine nw_getI l_X12_thrown_1 4 rfl k_303 (v := J 303 13) rfl ?_
  refine nw_ireturn l_X12_thrown_4 rfl ?_
  refine nw_iload l_L_law_2860 2862 rfl rfl ?_
  refine nw_ic_eq l_L_law_2862 2865 rfl (fun q1 => ?_) (fun q1 => ?_)
  · replace h := h.1 q1
    refine nw_iload l_L_law_2867 2869 rfl rfl ?_
    refine nw_if_ne l_L_law_2869 2872 rfl (fun q2 => ?_) (fun q2 => ?_)
    · replace h := h.1 q2
      refine nw_goto l_L_law_2884 ?_
      refine nw_drop (ls' := [some (.inr (.inl (some 1000000))), some (.inr (.inl (some 0))), some (.inr (.inl (some 303))), some (.inr (.inl (some 314))), some (.inr (.inl (some 315))), some (.inl x5), none, none, none]) ⟨rfl, ⟨rfl, ⟨rfl, ⟨rfl, ⟨rfl, ⟨rfl, ⟨True.intro, ⟨True.intro, ⟨True.intro, True.intro⟩⟩⟩⟩⟩⟩⟩⟩⟩ ?_
      exact h
    · replace h := h.2 q2
      refine nw_aload_n l_L_law_2872 2873 rfl rfl ?_
      refine nw_iconst (len := 0) l_L_law_2873 2874 rfl c_0 ?_
      refine nw_lald l_L_law_2874 2875 rfl k_314 ⟨by decide, by decide⟩ (v := L 314 0) rfl ?_
      refine nw_iload l_L_law_2875 2877 rfl rfl ?_
      refine nw_i2l l_L_law_2877 2878 rfl ?_
      refine nw_lcmp l_L_law_2878 2879 rfl ?_
      refine nw_if_eq l_L_law_2879 2882 rfl (fun q3 => ?_) (fun q3 => ?_)
      · replace h := h.1 q3
        refine nw_goto l_L_law_2884 ?_
        refine nw_drop (ls' := [some (.inr (.inl (some 1000000))), some (.inr (.inl (some 0))), some (.inr (.inl (some 303))), some (.inr (.inl (some 314))), some (.inr (.inl (some 315))), some (.inl x5), none, none, none]) ⟨rfl, ⟨rfl, ⟨rfl, ⟨rfl, ⟨rfl, ⟨rfl, ⟨True.intro, ⟨True.intro, ⟨True.intro, True.intro⟩⟩⟩⟩⟩⟩⟩⟩⟩ ?_
        exact h
      · replace h := h.2 q3
        refine nw_iconst (len := 0) l_L_law_2882 2883 rfl c_0 ?_
        refine nw_ireturnZ l_L_law_2883 rfl (Or.inl rfl) ?_
        exact h
  · replace h := h.2 q1
    refine nw_iconst (len := 0) l_L_law_2865 2866 rfl c_0 ?_
    refine nw_ireturnZ l_L_law_2866 rfl (Or.inl rfl) ?_
    exact h
theorem b_L_law_2898 {x5 : Int} {x6 : Int} {y0 : Int} (hD : 18 ≤ D) (h : ((J 303 13 = x6 → ((¬ x6 = 0 → NW sc d_L_law D (3300, [some (.inr (.inl (some 1000000))), some (.inr (.inl (some 0))), some (.inr (.inl (some 303))), some (.inr (.inl (some 314))), some (.inr (.inl (some 315))), some (.inl x5), none, none, none], [], (J, L, W), c, sl) Qr Qx) ∧ (x6 = 0 → ((nw_cmp3 (L 314 0) y0 = 0 → NW sc d_L_law D (3300, [some (.inr (.inl (some 1000000))), some (.inr (.inl (some 0))), some (.inr (.inl (some 303))), some (.inr (.inl (some 314))), some (.inr (.inl (some 315))), some (.inl x5), none, none, none], [], (J, L, W), c, sl) Qr Qx) ∧ (¬ nw_cmp3 (L 314 0) y0 = 0 → Qr (some (.inl 0)) (J, L, W)))))) ∧ (¬ J 303 13 = x6 → Qr (some (.inl 0)) (J, L, W)))) :
    NW sc d_L_law D (2898, [some (.inr (.inl (some 1000000))), some (.inr (.inl (some 0))), some (.inr (.inl (some 303))), some (.inr (.inl (some 314))), some (.inr (.inl (some 315))), some (.inl x5), some (.inl x6), none, none], [.inl y0], (J, L, W), c, sl) Qr Qx := by
  refine nw_istore l_L_law_2898 2900 rfl rfl (ls' := [some (.inr (.inl (some 1000000))), some (.inr (.inl (some 0))), some (.inr (.inl (some 303))), some (.inr (.inl (some 314))), some (.inr (.inl (some 315))), some (.inl x5), some (.inl x6), some (.inl y0), none]) rfl ?_
  refine nw_aload_n l_L_law_2900 2901 rfl rfl ?_
  refine nw_call0 0 303 l_L_law_2901 rfl rfl g_X12_thrown (Nat.lt_of_lt_of_le (by decide) hD) rfl (Or.inl ⟨_, rfl, k_303⟩) (ls' := [some (.inr (.inl (some 303)))]) rfl (st' := []) rfl 2904 rfl ?_
  refine nw_aload_n l_X12_thrown_0 1 rfl rfl ?_
  refine nw_getI l_X12_thrown_1 4 rfl k_303 (v := J 303 13) rfl ?_
  refine nw_ireturn l_X12_thrown_4 rfl ?_
  refine nw_iload l_L_law_2904 2906 rfl rfl ?_
  refine nw_ic_eq l_L_law_2906 2909 rfl (fun q1 => ?_) (fun q1 => ?_)
  · replace h := h.1 q1
    refine nw_iload l_L_law_2911 2913 rfl rfl ?_
    refine nw_if_ne l_L_law_2913 2916 rfl (fun q2 => ?_) (fun q2 => ?_)
    · replace h := h.1 q2
      refine nw_goto l_L_law_2928 ?_
      refine nw_drop (ls' := [some (.inr (.inl (some 1000000))), some (.inr (.inl (some 0))), some (.inr (.inl (some 303))), some (.inr (.inl (some 314))), some (.inr (.inl (some 315))), some (.inl x5), none, none, none]) ⟨rfl, ⟨rfl, ⟨rfl, ⟨rfl, ⟨rfl, ⟨rfl, ⟨True.intro, ⟨True.intro, ⟨True.intro, True.intro⟩⟩⟩⟩⟩⟩⟩⟩⟩ ?_
      exact h
    · replace h := h.2 q2
      refine nw_aload_n l_L_law_2916 2917 rfl rfl ?_
      refine nw_iconst (len := 0) l_L_law_2917 2918 rfl c_0 ?_
      refine nw_lald l_L_law_2918 2919 rfl k_314 ⟨by decide, by decide⟩ (v := L 314 0) rfl ?_
      refine nw_iload l_L_law_2919 2921 rfl rfl ?_
      refine nw_i2l l_L_law_2921 2922 rfl ?_
      refine nw_lcmp l_L_law_2922 2923 rfl ?_
      refine nw_if_eq l_L_law_2923 2926 rfl (fun q3 => ?_) (fun q3 => ?_)
      · replace h := h.1 q3
        refine nw_goto l_L_law_2928 ?_
        refine nw_drop (ls' := [some (.inr (.inl (some 1000000))), some (.inr (.inl (some 0))), some (.inr (.inl (some 303))), some (.inr (.inl (some 314))), some (.inr (.inl (some 315))), some (.inl x5), none, none, none]) ⟨rfl, ⟨rfl, ⟨rfl, ⟨rfl, ⟨rfl, ⟨rfl, ⟨True.intro, ⟨True.intro, ⟨True.intro, True.intro⟩⟩⟩⟩⟩⟩⟩⟩⟩ ?_
        exact h
      · replace h := h.2 q3
        refine nw_iconst (len := 0) l_L_law_2926 2927 rfl c_0 ?_
        refine nw_ireturnZ l_L_law_2927 rfl (Or.inl rfl) ?_
        exact h
  · replace h := h.2 q1
    refine nw_iconst (len := 0) l_L_law_2909 2910 rfl c_0 ?_
    refine nw_ireturnZ l_L_law_2910 rfl (Or.inl rfl) ?_
    exact h
theorem b_L_law_2954 {x5 : Int} {x6 : Int} {y0 : Int} (hD : 18 ≤ D) (h : ((J 303 13 = x6 → ((¬ x6 = 0 → NW sc d_L_law D (3300, [some (.inr (.inl (some 1000000))), some (.inr (.inl (some 0))), some (.inr (.inl (some 303))), some (.inr (.inl (some 314))), some (.inr (.inl (some 315))), some (.inl x5), none, none, none], [], (J, L, W), c, sl) Qr Qx) ∧ (x6 = 0 → ((nw_cmp3 (L 314 0) y0 = 0 → NW sc d_L_law D (3300, [some (.inr (.inl (some 1000000))), some (.inr (.inl (some 0))), some (.inr (.inl (some 303))), some (.inr (.inl (some 314))), some (.inr (.inl (some 315))), some (.inl x5), none, none, none], [], (J, L, W), c, sl) Qr Qx) ∧ (¬ nw_cmp3 (L 314 0) y0 = 0 → Qr (some (.inl 0)) (J, L, W)))))) ∧ (¬ J 303 13 = x6 → Qr (some (.inl 0)) (J, L, W)))) :
    NW sc d_L_law D (2954, [some (.inr (.inl (some 1000000))), some (.inr (.inl (some 0))), some (.inr (.inl (some 303))), some (.inr (.inl (some 314))), some (.inr (.inl (some 315))), some (.inl x5), some (.inl x6), none, none], [.inl y0], (J, L, W), c, sl) Qr Qx := by
  refine nw_istore l_L_law_2954 2956 rfl rfl (ls' := [some (.inr (.inl (some 1000000))), some (.inr (.inl (some 0))), some (.inr (.inl (some 303))), some (.inr (.inl (some 314))), some (.inr (.inl (some 315))), some (.inl x5), some (.inl x6), some (.inl y0), none]) rfl ?_
  refine nw_aload_n l_L_law_2956 2957 rfl rfl ?_
  refine nw_call0 0 303 l_L_law_2957 rfl rfl g_X12_thrown (Nat.lt_of_lt_of_le (by decide) hD) rfl (Or.inl ⟨_, rfl, k_303⟩) (ls' := [some (.inr (.inl (some 303)))]) rfl (st' := []) rfl 2960 rfl ?_
  refine nw_aload_n l_X12_thrown_0 1 rfl rfl ?_
  refine nw_getI l_X12_thrown_1 4 rfl k_303 (v := J 303 13) rfl ?_
  refine nw_ireturn l_X12_thrown_4 rfl ?_
  refine nw_iload l_L_law_2960 2962 rfl rfl ?_
  refine nw_ic_eq l_L_law_2962 2965 rfl (fun q1 => ?_) (fun q1 => ?_)
  · replace h := h.1 q1
    refine nw_iload l_L_law_2967 2969 rfl rfl ?_
    refine nw_if_ne l_L_law_2969 2972 rfl (fun q2 => ?_) (fun q2 => ?_)
    · replace h := h.1 q2
      refine nw_goto l_L_law_2984 ?_
      refine nw_drop (ls' := [some (.inr (.inl (some 1000000))), some (.inr (.inl (some 0))), some (.inr (.inl (some 303))), some (.inr (.inl (some 314))), some (.inr (.inl (some 315))), some (.inl x5), none, none, none]) ⟨rfl, ⟨rfl, ⟨rfl, ⟨rfl, ⟨rfl, ⟨rfl, ⟨True.intro, ⟨True.intro, ⟨True.intro, True.intro⟩⟩⟩⟩⟩⟩⟩⟩⟩ ?_
      exact h
    · replace h := h.2 q2
      refine nw_aload_n l_L_law_2972 2973 rfl rfl ?_
      refine nw_iconst (len := 0) l_L_law_2973 2974 rfl c_0 ?_
      refine nw_lald l_L_law_2974 2975 rfl k_314 ⟨by decide, by decide⟩ (v := L 314 0) rfl ?_
      refine nw_iload l_L_law_2975 2977 rfl rfl ?_
      refine nw_i2l l_L_law_2977 2978 rfl ?_
      refine nw_lcmp l_L_law_2978 2979 rfl ?_
      refine nw_if_eq l_L_law_2979 2982 rfl (fun q3 => ?_) (fun q3 => ?_)
      · replace h := h.1 q3
        refine nw_goto l_L_law_2984 ?_
        refine nw_drop (ls' := [some (.inr (.inl (some 1000000))), some (.inr (.inl (some 0))), some (.inr (.inl (some 303))), some (.inr (.inl (some 314))), some (.inr (.inl (some 315))), some (.inl x5), none, none, none]) ⟨rfl, ⟨rfl, ⟨rfl, ⟨rfl, ⟨rfl, ⟨rfl, ⟨True.intro, ⟨True.intro, ⟨True.intro, True.intro⟩⟩⟩⟩⟩⟩⟩⟩⟩ ?_
        exact h
      · replace h := h.2 q3
        refine nw_iconst (len := 0) l_L_law_2982 2983 rfl c_0 ?_
        refine nw_ireturnZ l_L_law_2983 rfl (Or.inl rfl) ?_
        exact h
  · replace h := h.2 q1
    refine nw_iconst (len := 0) l_L_law_2965 2966 rfl c_0 ?_
    refine nw_ireturnZ l_L_law_2966 rfl (Or.inl rfl) ?_
    exact h
theorem b_L_law_3010 {x5 : Int} {x6 : Int} {y0 : Int} (hD : 18 ≤ D) (h : ((J 303 13 = x6 → ((¬ x6 = 0 → NW sc d_L_law D (3300, [some (.inr (.inl (some 1000000))), some (.inr (.inl (some 0))), some (.inr (.inl (some 303))), some (.inr (.inl (some 314))), some (.inr (.inl (some 315))), some (.inl x5), none, none, none], [], (J, L, W), c, sl) Qr Qx) ∧ (x6 = 0 → ((nw_cmp3 (L 314 0) y0 = 0 → NW sc d_L_law D (3300, [some (.inr (.inl (some 1000000))), some (.inr (.inl (some 0))), some (.inr (.inl (some 303))), some (.inr (.inl (some 314))), some (.inr (.inl (some 315))), some (.inl x5), none, none, none], [], (J, L, W), c, sl) Qr Qx) ∧ (¬ nw_cmp3 (L 314 0) y0 = 0 → Qr (some (.inl 0)) (J, L, W)))))) ∧ (¬ J 303 13 = x6 → Qr (some (.inl 0)) (J, L, W)))) :
    NW sc d_L_law D (3010, [some (.inr (.inl (some 1000000))), some (.inr (.inl (some 0))), some (.inr (.inl (some 303))), some (.inr (.inl (some 314))), some (.inr (.inl (some 315))), some (.inl x5), some (.inl x6), none, none], [.inl y0], (J, L, W), c, sl) Qr Qx := by
  refine nw_istore l_L_law_3010 3012 rfl rfl (ls' := [some (.inr (.inl (some 1000000))), some (.inr (.inl (some 0))), some (.inr (.inl (some 303))), some (.inr (.inl (some 314))), some (.inr (.inl (some 315))), some (.inl x5), some (.inl x6), some (.inl y0), none]) rfl ?_
  refine nw_aload_n l_L_law_3012 3013 rfl rfl ?_
  refine nw_call0 0 303 l_L_law_3013 rfl rfl g_X12_thrown (Nat.lt_of_lt_of_le (by decide) hD) rfl (Or.inl ⟨_, rfl, k_303⟩) (ls' := [some (.inr (.inl (some 303)))]) rfl (st' := []) rfl 3016 rfl ?_
  refine nw_aload_n l_X12_thrown_0 1 rfl rfl ?_
  refine nw_getI l_X12_thrown_1 4 rfl k_303 (v := J 303 13) rfl ?_
  refine nw_ireturn l_X12_thrown_4 rfl ?_
  refine nw_iload l_L_law_3016 3018 rfl rfl ?_
  refine nw_ic_eq l_L_law_3018 3021 rfl (fun q1 => ?_) (fun q1 => ?_)
  · replace h := h.1 q1
    refine nw_iload l_L_law_3023 3025 rfl rfl ?_
    refine nw_if_ne l_L_law_3025 3028 rfl (fun q2 => ?_) (fun q2 => ?_)
    · replace h := h.1 q2
      refine nw_goto l_L_law_3040 ?_
      refine nw_drop (ls' := [some (.inr (.inl (some 1000000))), some (.inr (.inl (some 0))), some (.inr (.inl (some 303))), some (.inr (.inl (some 314))), some (.inr (.inl (some 315))), some (.inl x5), none, none, none]) ⟨rfl, ⟨rfl, ⟨rfl, ⟨rfl, ⟨rfl, ⟨rfl, ⟨True.intro, ⟨True.intro, ⟨True.intro, True.intro⟩⟩⟩⟩⟩⟩⟩⟩⟩ ?_
      exact h
    · replace h := h.2 q2
      refine nw_aload_n l_L_law_3028 3029 rfl rfl ?_
      refine nw_iconst (len := 0) l_L_law_3029 3030 rfl c_0 ?_
      refine nw_lald l_L_law_3030 3031 rfl k_314 ⟨by decide, by decide⟩ (v := L 314 0) rfl ?_
      refine nw_iload l_L_law_3031 3033 rfl rfl ?_
      refine nw_i2l l_L_law_3033 3034 rfl ?_
      refine nw_lcmp l_L_law_3034 3035 rfl ?_
      refine nw_if_eq l_L_law_3035 3038 rfl (fun q3 => ?_) (fun q3 => ?_)
      · replace h := h.1 q3
        refine nw_goto l_L_law_3040 ?_
        refine nw_drop (ls' := [some (.inr (.inl (some 1000000))), some (.inr (.inl (some 0))), some (.inr (.inl (some 303))), some (.inr (.inl (some 314))), some (.inr (.inl (some 315))), some (.inl x5), none, none, none]) ⟨rfl, ⟨rfl, ⟨rfl, ⟨rfl, ⟨rfl, ⟨rfl, ⟨True.intro, ⟨True.intro, ⟨True.intro, True.intro⟩⟩⟩⟩⟩⟩⟩⟩⟩ ?_
        exact h
      · replace h := h.2 q3
        refine nw_iconst (len := 0) l_L_law_3038 3039 rfl c_0 ?_
        refine nw_ireturnZ l_L_law_3039 rfl (Or.inl rfl) ?_
        exact h
  · replace h := h.2 q1
    refine nw_iconst (len := 0) l_L_law_3021 3022 rfl c_0 ?_
    refine nw_ireturnZ l_L_law_3022 rfl (Or.inl rfl) ?_
    exact h
theorem b_L_law_3055 {x5 : Int} {x6 : Int} {y0 : UInt64} (hD : 18 ≤ D) (h : ((J 303 13 = x6 → ((¬ x6 = 0 → NW sc d_L_law D (3300, [some (.inr (.inl (some 1000000))), some (.inr (.inl (some 0))), some (.inr (.inl (some 303))), some (.inr (.inl (some 314))), some (.inr (.inl (some 315))), some (.inl x5), none, none, none], [], (J, L, W), c, sl) Qr Qx) ∧ (x6 = 0 → (((Op.cmpValue (FP.dcmp (W.1 315 0) y0) .l).toInt = 0 → NW sc d_L_law D (3300, [some (.inr (.inl (some 1000000))), some (.inr (.inl (some 0))), some (.inr (.inl (some 303))), some (.inr (.inl (some 314))), some (.inr (.inl (some 315))), some (.inl x5), none, none, none], [], (J, L, W), c, sl) Qr Qx) ∧ (¬ (Op.cmpValue (FP.dcmp (W.1 315 0) y0) .l).toInt = 0 → (((Op.cmpValue (FP.dcmp (W.1 315 0) (W.1 315 0)) .l).toInt = 0 → Qr (some (.inl 0)) (J, L, W)) ∧ (¬ (Op.cmpValue (FP.dcmp (W.1 315 0) (W.1 315 0)) .l).toInt = 0 → ((¬ (Op.cmpValue (FP.dcmp y0 y0) .l).toInt = 0 → NW sc d_L_law D (3300, [some (.inr (.inl (some 1000000))), some (.inr (.inl (some 0))), some (.inr (.inl (some 303))), some (.inr (.inl (some 314))), some (.inr (.inl (some 315))), some (.inl x5), none, none, none], [], (J, L, W), c, sl) Qr Qx) ∧ ((Op.cmpValue (FP.dcmp y0 y0) .l).toInt = 0 → Qr (some (.inl 0)) (J, L, W)))))))))) ∧ (¬ J 303 13 = x6 → Qr (some (.inl 0)) (J, L, W)))) :
    NW sc d_L_law D (3055, [some (.inr (.inl (some 1000000))), some (.inr (.inl (some 0))), some (.inr (.inl (some 303))), some (.inr (.inl (some 314))), some (.inr (.inl (some 315))), some (.inl x5), some (.inl x6), none, none], [.inr (.inr (.inr (.inl y0)))], (J, L, W), c, sl) Qr Qx := by
  refine nw_dstore l_L_law_3055 3057 rfl ⟨rfl, Nat.le_of_ble_eq_true rfl⟩ (ls' := [some (.inr (.inl (some 1000000))), some (.inr (.inl (some 0))), some (.inr (.inl (some 303))), some (.inr (.inl (some 314))), some (.inr (.inl (some 315))), some (.inl x5), some (.inl x6), some (.inr (.inr (.inr (.inl y0)))), none]) rfl ?_
  refine nw_aload_n l_L_law_3057 3058 rfl rfl ?_
  refine nw_call0 0 303 l_L_law_3058 rfl rfl g_X12_thrown (Nat.lt_of_lt_of_le (by decide) hD) rfl (Or.inl ⟨_, rfl, k_303⟩) (ls' := [some (.inr (.inl (some 303)))]) rfl (st' := []) rfl 3061 rfl ?_
  refine nw_aload_n l_X12_thrown_0 1 rfl rfl ?_
  refine nw_getI l_X12_thrown_1 4 rfl k_303 (v := J 303 13) rfl ?_
  refine nw_ireturn l_X12_thrown_4 rfl ?_
  refine nw_iload l_L_law_3061 3063 rfl rfl ?_
  refine nw_ic_eq l_L_law_3063 3066 rfl (fun q1 => ?_) (fun q1 => ?_)
  · replace h := h.1 q1
    refine nw_iload l_L_law_3068 3070 rfl rfl ?_
    refine nw_if_ne l_L_law_3070 3073 rfl (fun q2 => ?_) (fun q2 => ?_)
    · replace h := h.1 q2
      refine nw_goto l_L_law_3105 ?_
      refine nw_drop (ls' := [some (.inr (.inl (some 1000000))), some (.inr (.inl (some 0))), some (.inr (.inl (some 303))), some (.inr (.inl (some 314))), some (.inr (.inl (some 315))), some (.inl x5), none, none, none]) ⟨rfl, ⟨rfl, ⟨rfl, ⟨rfl, ⟨rfl, ⟨rfl, ⟨True.intro, ⟨True.intro, ⟨True.intro, True.intro⟩⟩⟩⟩⟩⟩⟩⟩⟩ ?_
      exact h
    · replace h := h.2 q2
      refine nw_aload l_L_law_3073 3075 rfl rfl ?_
      refine nw_iconst (len := 0) l_L_law_3075 3076 rfl c_0 ?_
      refine nw_dald l_L_law_3076 3077 rfl k_315 ⟨by decide, by decide⟩ (v := W.1 315 0) rfl ?_
      refine nw_dload l_L_law_3077 3079 rfl rfl ?_
      refine nw_dcmp l_L_law_3079 3080 rfl ?_
      refine nw_if_eq l_L_law_3080 3083 rfl (fun q3 => ?_) (fun q3 => ?_)
      · replace h := h.1 q3
        refine nw_goto l_L_law_3105 ?_
        refine nw_drop (ls' := [some (.inr (.inl (some 1000000))), some (.inr (.inl (some 0))), some (.inr (.inl (some 303))), some (.inr (.inl (some 314))), some (.inr (.inl (some 315))), some (.inl x5), none, none, none]) ⟨rfl, ⟨rfl, ⟨rfl, ⟨rfl, ⟨rfl, ⟨rfl, ⟨True.intro, ⟨True.intro, ⟨True.intro, True.intro⟩⟩⟩⟩⟩⟩⟩⟩⟩ ?_
        exact h
      · replace h := h.2 q3
        refine nw_aload l_L_law_3083 3085 rfl rfl ?_
        refine nw_iconst (len := 0) l_L_law_3085 3086 rfl c_0 ?_
        refine nw_dald l_L_law_3086 3087 rfl k_315 ⟨by decide, by decide⟩ (v := W.1 315 0) rfl ?_
        refine nw_aload l_L_law_3087 3089 rfl rfl ?_
        refine nw_iconst (len := 0) l_L_law_3089 3090 rfl c_0 ?_
        refine nw_dald l_L_law_3090 3091 rfl k_315 ⟨by decide, by decide⟩ (v := W.1 315 0) rfl ?_
        refine nw_dcmp l_L_law_3091 3092 rfl ?_
        refine nw_if_eq l_L_law_3092 3095 rfl (fun q4 => ?_) (fun q4 => ?_)
        · replace h := h.1 q4
          refine nw_iconst (len := 0) l_L_law_3103 3104 rfl c_0 ?_
          refine nw_ireturnZ l_L_law_3104 rfl (Or.inl rfl) ?_
          exact h
        · replace h := h.2 q4
          refine nw_dload l_L_law_3095 3097 rfl rfl ?_
          refine nw_dload l_L_law_3097 3099 rfl rfl ?_
          refine nw_dcmp l_L_law_3099 3100 rfl ?_
          refine nw_if_ne l_L_law_3100 3103 rfl (fun q5 => ?_) (fun q5 => ?_)
          · replace h := h.1 q5
            refine nw_goto l_L_law_3105 ?_
            refine nw_drop (ls' := [some (.inr (.inl (some 1000000))), some (.inr (.inl (some 0))), some (.inr (.inl (some 303))), some (.inr (.inl (some 314))), some (.inr (.inl (some 315))), some (.inl x5), none, none, none]) ⟨rfl, ⟨rfl, ⟨rfl, ⟨rfl, ⟨rfl, ⟨rfl, ⟨True.intro, ⟨True.intro, ⟨True.intro, True.intro⟩⟩⟩⟩⟩⟩⟩⟩⟩ ?_
            exact h
          · replace h := h.2 q5
            refine nw_iconst (len := 0) l_L_law_3103 3104 rfl c_0 ?_
            refine nw_ireturnZ l_L_law_3104 rfl (Or.inl rfl) ?_
            exact h
  · replace h := h.2 q1
    refine nw_iconst (len := 0) l_L_law_3066 3067 rfl c_0 ?_
    refine nw_ireturnZ l_L_law_3067 rfl (Or.inl rfl) ?_
    exact h
theorem b_L_law_3132 {x5 : Int} {x6 : Int} {y0 : UInt32} (hD : 18 ≤ D) (h : ((J 303 13 = x6 → ((¬ x6 = 0 → NW sc d_L_law D (3300, [some (.inr (.inl (some 1000000))), some (.inr (.inl (some 0))), some (.inr (.inl (some 303))), some (.inr (.inl (some 314))), some (.inr (.inl (some 315))), some (.inl x5), none, none, none], [], (J, L, W), c, sl) Qr Qx) ∧ (x6 = 0 → ((vf_n64 (FP.f2d y0)) ∧ (((Op.cmpValue (FP.dcmp (W.1 315 0) (FP.f2d y0)) .l).toInt = 0 → NW sc d_L_law D (3300, [some (.inr (.inl (some 1000000))), some (.inr (.inl (some 0))), some (.inr (.inl (some 303))), some (.inr (.inl (some 314))), some (.inr (.inl (some 315))), some (.inl x5), none, none, none], [], (J, L, W), c, sl) Qr Qx) ∧ (¬ (Op.cmpValue (FP.dcmp (W.1 315 0) (FP.f2d y0)) .l).toInt = 0 → (((Op.cmpValue (FP.dcmp (W.1 315 0) (W.1 315 0)) .l).toInt = 0 → Qr (some (.inl 0)) (J, L, W)) ∧ (¬ (Op.cmpValue (FP.dcmp (W.1 315 0) (W.1 315 0)) .l).toInt = 0 → ((¬ (Op.cmpValue (FP.fcmp y0 y0) .l).toInt = 0 → NW sc d_L_law D (3300, [some (.inr (.inl (some 1000000))), some (.inr (.inl (some 0))), some (.inr (.inl (some 303))), some (.inr (.inl (some 314))), some (.inr (.inl (some 315))), some (.inl x5), none, none, none], [], (J, L, W), c, sl) Qr Qx) ∧ ((Op.cmpValue (FP.fcmp y0 y0) .l).toInt = 0 → Qr (some (.inl 0)) (J, L, W))))))))))) ∧ (¬ J 303 13 = x6 → Qr (some (.inl 0)) (J, L, W)))) :
    NW sc d_L_law D (3132, [some (.inr (.inl (some 1000000))), some (.inr (.inl (some 0))), some (.inr (.inl (some 303))), some (.inr (.inl (some 314))), some (.inr (.inl (some 315))), some (.inl x5), some (.inl x6), none, none], [.inr (.inr (.inr (.inr y0)))], (J, L, W), c, sl) Qr Qx := by
  refine nw_fstore l_L_law_3132 3134 rfl rfl (ls' := [some (.inr (.inl (some 1000000))), some (.inr (.inl (some 0))), some (.inr (.inl (some 303))), some (.inr (.inl (some 314))), some (.inr (.inl (some 315))), some (.inl x5), some (.inl x6), some (.inr (.inr (.inr (.inr y0)))), none]) rfl ?_
  refine nw_aload_n l_L_law_3134 3135 rfl rfl ?_
  refine nw_call0 0 303 l_L_law_3135 rfl rfl g_X12_thrown (Nat.lt_of_lt_of_le (by decide) hD) rfl (Or.inl ⟨_, rfl, k_303⟩) (ls' := [some (.inr (.inl (some 303)))]) rfl (st' := []) rfl 3138 rfl ?_
  refine nw_aload_n l_X12_thrown_0 1 rfl rfl ?_
  refine nw_getI l_X12_thrown_1 4 rfl k_303 (v := J 303 13) rfl ?_
  refine nw_ireturn l_X12_thrown_4 rfl ?_
  refine nw_iload l_L_law_3138 3140 rfl rfl ?_
  refine nw_ic_eq l_L_law_3140 3143 rfl (fun q1 => ?_) (fun q1 => ?_)
  · replace h := h.1 q1
    refine nw_iload l_L_law_3145 3147 rfl rfl ?_
    refine nw_if_ne l_L_law_3147 3150 rfl (fun q2 => ?_) (fun q2 => ?_)
    · replace h := h.1 q2
      refine nw_goto l_L_law_3183 ?_
      refine nw_drop (ls' := [some (.inr (.inl (some 1000000))), some (.inr (.inl (some 0))), some (.inr (.inl (some 303))), some (.inr (.inl (some 314))), some (.inr (.inl (some 315))), some (.inl x5), none, none, none]) ⟨rfl, ⟨rfl, ⟨rfl, ⟨rfl, ⟨rfl, ⟨rfl, ⟨True.intro, ⟨True.intro, ⟨True.intro, True.intro⟩⟩⟩⟩⟩⟩⟩⟩⟩ ?_
      exact h
    · replace h := h.2 q2
      refine nw_aload l_L_law_3150 3152 rfl rfl ?_
      refine nw_iconst (len := 0) l_L_law_3152 3153 rfl c_0 ?_
      refine nw_dald l_L_law_3153 3154 rfl k_315 ⟨by decide, by decide⟩ (v := W.1 315 0) rfl ?_
      refine nw_fload l_L_law_3154 3156 rfl rfl ?_
      have o3 := h.1
      replace h := h.2
      refine nw_f2d l_L_law_3156 3157 rfl o3 ?_
      refine nw_dcmp l_L_law_3157 3158 rfl ?_
      refine nw_if_eq l_L_law_3158 3161 rfl (fun q4 => ?_) (fun q4 => ?_)
      · replace h := h.1 q4
        refine nw_goto l_L_law_3183 ?_
        refine nw_drop (ls' := [some (.inr (.inl (some 1000000))), some (.inr (.inl (some 0))), some (.inr (.inl (some 303))), some (.inr (.inl (some 314))), some (.inr (.inl (some 315))), some (.inl x5), none, none, none]) ⟨rfl, ⟨rfl, ⟨rfl, ⟨rfl, ⟨rfl, ⟨rfl, ⟨True.intro, ⟨True.intro, ⟨True.intro, True.intro⟩⟩⟩⟩⟩⟩⟩⟩⟩ ?_
        exact h
      · replace h := h.2 q4
        refine nw_aload l_L_law_3161 3163 rfl rfl ?_
        refine nw_iconst (len := 0) l_L_law_3163 3164 rfl c_0 ?_
        refine nw_dald l_L_law_3164 3165 rfl k_315 ⟨by decide, by decide⟩ (v := W.1 315 0) rfl ?_
        refine nw_aload l_L_law_3165 3167 rfl rfl ?_
        refine nw_iconst (len := 0) l_L_law_3167 3168 rfl c_0 ?_
        refine nw_dald l_L_law_3168 3169 rfl k_315 ⟨by decide, by decide⟩ (v := W.1 315 0) rfl ?_
        refine nw_dcmp l_L_law_3169 3170 rfl ?_
        refine nw_if_eq l_L_law_3170 3173 rfl (fun q5 => ?_) (fun q5 => ?_)
        · replace h := h.1 q5
          refine nw_iconst (len := 0) l_L_law_3181 3182 rfl c_0 ?_
          refine nw_ireturnZ l_L_law_3182 rfl (Or.inl rfl) ?_
          exact h
        · replace h := h.2 q5
          refine nw_fload l_L_law_3173 3175 rfl rfl ?_
          refine nw_fload l_L_law_3175 3177 rfl rfl ?_
          refine nw_fcmp l_L_law_3177 3178 rfl ?_
          refine nw_if_ne l_L_law_3178 3181 rfl (fun q6 => ?_) (fun q6 => ?_)
          · replace h := h.1 q6
            refine nw_goto l_L_law_3183 ?_
            refine nw_drop (ls' := [some (.inr (.inl (some 1000000))), some (.inr (.inl (some 0))), some (.inr (.inl (some 303))), some (.inr (.inl (some 314))), some (.inr (.inl (some 315))), some (.inl x5), none, none, none]) ⟨rfl, ⟨rfl, ⟨rfl, ⟨rfl, ⟨rfl, ⟨rfl, ⟨True.intro, ⟨True.intro, ⟨True.intro, True.intro⟩⟩⟩⟩⟩⟩⟩⟩⟩ ?_
            exact h
          · replace h := h.2 q6
            refine nw_iconst (len := 0) l_L_law_3181 3182 rfl c_0 ?_
            refine nw_ireturnZ l_L_law_3182 rfl (Or.inl rfl) ?_
            exact h
  · replace h := h.2 q1
    refine nw_iconst (len := 0) l_L_law_3143 3144 rfl c_0 ?_
    refine nw_ireturnZ l_L_law_3144 rfl (Or.inl rfl) ?_
    exact h
theorem b_L_law_3194 {x5 : Int} {y0 : Int} {y1 : Int} (h : ((y1 = y0 → NW sc d_L_law D (3300, [some (.inr (.inl (some 1000000))), some (.inr (.inl (some 0))), some (.inr (.inl (some 303))), some (.inr (.inl (some 314))), some (.inr (.inl (some 315))), some (.inl x5), none, none, none], [], (J, L, W), c, sl) Qr Qx) ∧ (¬ y1 = y0 → Qr (some (.inl 0)) (J, L, W)))) :
    NW sc d_L_law D (3194, [some (.inr (.inl (some 1000000))), some (.inr (.inl (some 0))), some (.inr (.inl (some 303))), some (.inr (.inl (some 314))), some (.inr (.inl (some 315))), some (.inl x5), none, none, none], [.inl y0, .inl y1], (J, L, W), c, sl) Qr Qx := by
  refine nw_ic_eq l_L_law_3194 3197 rfl (fun q1 => ?_) (fun q1 => ?_)
  · replace h := h.1 q1
    exact h
  · replace h := h.2 q1
    refine nw_iconst (len := 0) l_L_law_3197 3198 rfl c_0 ?_
    refine nw_ireturnZ l_L_law_3198 rfl (Or.inl rfl) ?_
    exact h
theorem b_L_law_3210 {x5 : Int} {x6 : Int} {y0 : Int} (hD : 18 ≤ D) (h : ((J 303 13 = x6 → ((¬ x6 = 0 → NW sc d_L_law D (3300, [some (.inr (.inl (some 1000000))), some (.inr (.inl (some 0))), some (.inr (.inl (some 303))), some (.inr (.inl (some 314))), some (.inr (.inl (some 315))), some (.inl x5), none, none, none], [], (J, L, W), c, sl) Qr Qx) ∧ (x6 = 0 → ((nw_cmp3 (L 314 0) y0 = 0 → NW sc d_L_law D (3300, [some (.inr (.inl (some 1000000))), some (.inr (.inl (some 0))), some (.inr (.inl (some 303))), some (.inr (.inl (some 314))), some (.inr (.inl (some 315))), some (.inl x5), none, none, none], [], (J, L, W), c, sl) Qr Qx) ∧ (¬ nw_cmp3 (L 314 0) y0 = 0 → Qr (some (.inl 0)) (J, L, W)))))) ∧ (¬ J 303 13 = x6 → Qr (some (.inl 0)) (J, L, W)))) :
    NW sc d_L_law D (3210, [some (.inr (.inl (some 1000000))), some (.inr (.inl (some 0))), some (.inr (.inl (some 303))), some (.inr (.inl (some 314))), some (.inr (.inl (some 315))), some (.inl x5), some (.inl x6), none, none], [.inl y0], (J, L, W), c, sl) Qr Qx := by
  refine nw_istore l_L_law_3210 3212 rfl rfl (ls' := [some (.inr (.inl (some 1000000))), some (.inr (.inl (some 0))), some (.inr (.inl (some 303))), some (.inr (.inl (some 314))), some (.inr (.inl (some 315))), some (.inl x5), some (.inl x6), some (.inl y0), none]) rfl ?_
  refine nw_aload_n l_L_law_3212 3213 rfl rfl ?_
  refine nw_call0 0 303 l_L_law_3213 rfl rfl g_X12_thrown (Nat.lt_of_lt_of_le (by decide) hD) rfl (Or.inl ⟨_, rfl, k_303⟩) (ls' := [some (.inr (.inl (some 303)))]) rfl (st' := []) rfl 3216 rfl ?_
  refine nw_aload_n l_X12_thrown_0 1 rfl rfl ?_
  refine nw_getI l_X12_thrown_1 4 rfl k_303 (v := J 303 13) rfl ?_
  refine nw_ireturn l_X12_thrown_4 rfl ?_
  refine nw_iload l_L_law_3216 3218 rfl rfl ?_
  refine nw_ic_eq l_L_law_3218 3221 rfl (fun q1 => ?_) (fun q1 => ?_)
  · replace h := h.1 q1
    refine nw_iload l_L_law_3223 3225 rfl rfl ?_
    refine nw_if_ne l_L_law_3225 3228 rfl (fun q2 => ?_) (fun q2 => ?_)
    · replace h := h.1 q2
      refine nw_goto l_L_law_3240 ?_
      refine nw_drop (ls' := [some (.inr (.inl (some 1000000))), some (.inr (.inl (some 0))), some (.inr (.inl (some 303))), some (.inr (.inl (some 314))), some (.inr (.inl (some 315))), some (.inl x5), none, none, none]) ⟨rfl, ⟨rfl, ⟨rfl, ⟨rfl, ⟨rfl, ⟨rfl, ⟨True.intro, ⟨True.intro, ⟨True.intro, True.intro⟩⟩⟩⟩⟩⟩⟩⟩⟩ ?_
      exact h
    · replace h := h.2 q2
      refine nw_aload_n l_L_law_3228 3229 rfl rfl ?_
      refine nw_iconst (len := 0) l_L_law_3229 3230 rfl c_0 ?_
      refine nw_lald l_L_law_3230 3231 rfl k_314 ⟨by decide, by decide⟩ (v := L 314 0) rfl ?_
      refine nw_iload l_L_law_3231 3233 rfl rfl ?_
      refine nw_i2l l_L_law_3233 3234 rfl ?_
      refine nw_lcmp l_L_law_3234 3235 rfl ?_
      refine nw_if_eq l_L_law_3235 3238 rfl (fun q3 => ?_) (fun q3 => ?_)
      · replace h := h.1 q3
        refine nw_goto l_L_law_3240 ?_
        refine nw_drop (ls' := [some (.inr (.inl (some 1000000))), some (.inr (.inl (some 0))), some (.inr (.inl (some 303))), some (.inr (.inl (some 314))), some (.inr (.inl (some 315))), some (.inl x5), none, none, none]) ⟨rfl, ⟨rfl, ⟨rfl, ⟨rfl, ⟨rfl, ⟨rfl, ⟨True.intro, ⟨True.intro, ⟨True.intro, True.intro⟩⟩⟩⟩⟩⟩⟩⟩⟩ ?_
        exact h
      · replace h := h.2 q3
        refine nw_iconst (len := 0) l_L_law_3238 3239 rfl c_0 ?_
        refine nw_ireturnZ l_L_law_3239 rfl (Or.inl rfl) ?_
        exact h
  · replace h := h.2 q1
    refine nw_iconst (len := 0) l_L_law_3221 3222 rfl c_0 ?_
    refine nw_ireturnZ l_L_law_3222 rfl (Or.inl rfl) ?_
    exact h
theorem b_L_law_3251 {x5 : Int} {y0 : Int} {y1 : Int} (h : ((y1 = y0 → NW sc d_L_law D (3300, [some (.inr (.inl (some 1000000))), some (.inr (.inl (some 0))), some (.inr (.inl (some 303))), some (.inr (.inl (some 314))), some (.inr (.inl (some 315))), some (.inl x5), none, none, none], [], (J, L, W), c, sl) Qr Qx) ∧ (¬ y1 = y0 → Qr (some (.inl 0)) (J, L, W)))) :
    NW sc d_L_law D (3251, [some (.inr (.inl (some 1000000))), some (.inr (.inl (some 0))), some (.inr (.inl (some 303))), some (.inr (.inl (some 314))), some (.inr (.inl (some 315))), some (.inl x5), none, none, none], [.inl y0, .inl y1], (J, L, W), c, sl) Qr Qx := by
  refine nw_ic_eq l_L_law_3251 3254 rfl (fun q1 => ?_) (fun q1 => ?_)
  · replace h := h.1 q1
    exact h
  · replace h := h.2 q1
    refine nw_iconst (len := 0) l_L_law_3254 3255 rfl c_0 ?_
    refine nw_ireturnZ l_L_law_3255 rfl (Or.inl rfl) ?_
    exact h
theorem b_L_law_3267 {x5 : Int} {x6 : Int} {y0 : Int} (hD : 18 ≤ D) (h : ((J 303 13 = x6 → ((¬ x6 = 0 → NW sc d_L_law D (3300, [some (.inr (.inl (some 1000000))), some (.inr (.inl (some 0))), some (.inr (.inl (some 303))), some (.inr (.inl (some 314))), some (.inr (.inl (some 315))), some (.inl x5), none, none, none], [], (J, L, W), c, sl) Qr Qx) ∧ (x6 = 0 → ((nw_cmp3 (L 314 0) y0 = 0 → NW sc d_L_law D (3300, [some (.inr (.inl (some 1000000))), some (.inr (.inl (some 0))), some (.inr (.inl (some 303))), some (.inr (.inl (some 314))), some (.inr (.inl (some 315))), some (.inl x5), none, none, none], [], (J, L, W), c, sl) Qr Qx) ∧ (¬ nw_cmp3 (L 314 0) y0 = 0 → Qr (some (.inl 0)) (J, L, W)))))) ∧ (¬ J 303 13 = x6 → Qr (some (.inl 0)) (J, L, W)))) :
    NW sc d_L_law D (3267, [some (.inr (.inl (some 1000000))), some (.inr (.inl (some 0))), some (.inr (.inl (some 303))), some (.inr (.inl (some 314))), some (.inr (.inl (some 315))), some (.inl x5), some (.inl x6), none, none], [.inl y0], (J, L, W), c, sl) Qr Qx := by
  refine nw_istore l_L_law_3267 3269 rfl rfl (ls' := [some (.inr (.inl (some 1000000))), some (.inr (.inl (some 0))), some (.inr (.inl (some 303))), some (.inr (.inl (some 314))), some (.inr (.inl (some 315))), some (.inl x5), some (.inl x6), some (.inl y0), none]) rfl ?_
  refine nw_aload_n l_L_law_3269 3270 rfl rfl ?_
  refine nw_call0 0 303 l_L_law_3270 rfl rfl g_X12_thrown (Nat.lt_of_lt_of_le (by decide) hD) rfl (Or.inl ⟨_, rfl, k_303⟩) (ls' := [some (.inr (.inl (some 303)))]) rfl (st' := []) rfl 3273 rfl ?_
  refine nw_aload_n l_X12_thrown_0 1 rfl rfl ?_
  refine nw_getI l_X12_thrown_1 4 rfl k_303 (v := J 303 13) rfl ?_
  refine nw_ireturn l_X12_thrown_4 rfl ?_
  refine nw_iload l_L_law_3273 3275 rfl rfl ?_
  refine nw_ic_eq l_L_law_3275 3278 rfl (fun q1 => ?_) (fun q1 => ?_)
  · replace h := h.1 q1
    refine nw_iload l_L_law_3280 3282 rfl rfl ?_
    refine nw_if_ne l_L_law_3282 3285 rfl (fun q2 => ?_) (fun q2 => ?_)
    · replace h := h.1 q2
      refine nw_goto l_L_law_3297 ?_
      refine nw_drop (ls' := [some (.inr (.inl (some 1000000))), some (.inr (.inl (some 0))), some (.inr (.inl (some 303))), some (.inr (.inl (some 314))), some (.inr (.inl (some 315))), some (.inl x5), none, none, none]) ⟨rfl, ⟨rfl, ⟨rfl, ⟨rfl, ⟨rfl, ⟨rfl, ⟨True.intro, ⟨True.intro, ⟨True.intro, True.intro⟩⟩⟩⟩⟩⟩⟩⟩⟩ ?_
      exact h
    · replace h := h.2 q2
      refine nw_aload_n l_L_law_3285 3286 rfl rfl ?_
      refine nw_iconst (len := 0) l_L_law_3286 3287 rfl c_0 ?_
      refine nw_lald l_L_law_3287 3288 rfl k_314 ⟨by decide, by decide⟩ (v := L 314 0) rfl ?_
      refine nw_iload l_L_law_3288 3290 rfl rfl ?_
      refine nw_i2l l_L_law_3290 3291 rfl ?_
      refine nw_lcmp l_L_law_3291 3292 rfl ?_
      refine nw_if_eq l_L_law_3292 3295 rfl (fun q3 => ?_) (fun q3 => ?_)
      · replace h := h.1 q3
        refine nw_goto l_L_law_3297 ?_
        refine nw_drop (ls' := [some (.inr (.inl (some 1000000))), some (.inr (.inl (some 0))), some (.inr (.inl (some 303))), some (.inr (.inl (some 314))), some (.inr (.inl (some 315))), some (.inl x5), none, none, none]) ⟨rfl, ⟨rfl, ⟨rfl, ⟨rfl, ⟨rfl, ⟨rfl, ⟨True.intro, ⟨True.intro, ⟨True.intro, True.intro⟩⟩⟩⟩⟩⟩⟩⟩⟩ ?_
        exact h
      · replace h := h.2 q3
        refine nw_iconst (len := 0) l_L_law_3295 3296 rfl c_0 ?_
        refine nw_ireturnZ l_L_law_3296 rfl (Or.inl rfl) ?_
        exact h
  · replace h := h.2 q1
    refine nw_iconst (len := 0) l_L_law_3278 3279 rfl c_0 ?_
    refine nw_ireturnZ l_L_law_3279 rfl (Or.inl rfl) ?_
    exact h
end
