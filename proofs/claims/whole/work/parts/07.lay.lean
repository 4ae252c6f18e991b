def sw_K0 : List Nat := [9, 8, 50, 1, 50, 50, 2, 50, 50, 50, 5, 50, 50, 3, 50, 50, 50, 3, 50, 50, 50, 4, 53, 3, 50, 50, 50, 3, 50, 50, 50, 3, 50, 50, 50, 3, 50, 50, 50, 3, 50, 50, 50, 3, 50, 50, 50, 3, 50, 50, 50, 3, 50, 50, 50, 3, 50, 50, 50, 3, 50, 50, 50, 3, 50, 50, 50, 3, 50, 50, 50, 3, 50, 50, 50, 3, 50, 50, 50, 3, 50, 50, 50, 3, 50, 50, 50, 3, 50, 50, 50, 3, 50, 50, 50, 3, 50, 50, 50, 3, 50, 50, 50, 3, 50, 50, 50, 53, 52, 7, 50, 50, 50, 3, 50, 50, 50, 51, 51, 0, 6, 3, 50, 50, 50, 51, 50, 50, 3, 50, 50, 50, 3, 50, 50, 50, 3, 50, 50, 50, 10, 51, 50, 50, 50, 50, 50, 50, 50, 50, 50, 50, 50, 50, 50, 50, 50, 50, 50, 50, 50, 51, 50, 50, 50, 50, 50, 50, 50, 50, 51, 52, 50, 50, 51]
def sw_N0 : List Nat := [13, 2, 80, 7, 10, 10, 6, 40, 40, 40, 5, 9, 9, 6, 10, 10, 10, 6, 10, 10, 10, 3, 21, 6, 10, 10, 10, 6, 10, 10, 10, 6, 10, 10, 10, 6, 10, 10, 10, 6, 10, 10, 10, 6, 10, 10, 10, 6, 10, 10, 10, 6, 10, 10, 10, 6, 10, 10, 10, 6, 10, 10, 10, 6, 10, 10, 10, 6, 10, 10, 10, 6, 10, 10, 10, 6, 10, 10, 10, 6, 10, 10, 10, 6, 10, 10, 10, 6, 10, 10, 10, 6, 10, 10, 10, 6, 10, 10, 10, 6, 10, 10, 10, 6, 10, 10, 10, 3, 3, 5, 8, 8, 8, 6, 10, 10, 10, 9, 12, 3, 10, 6, 10, 10, 10, 3000, 3000, 4096, 6, 10, 10, 10, 6, 10, 10, 10, 6, 10, 10, 10, 62, 24, 10, 10, 33, 33, 80, 10, 10, 10, 80, 80, 80, 9, 9, 693, 60, 60, 60, 60, 9, 3000, 3000, 3000, 3000, 16384, 3000, 8, 8, 8, 9, 3, 3, 99, 1]
def sw_R0 : List (List (Option Nat)) := [[some 1, some 3, some 13, some 17, some 21, some 107, some 108, some 109, some 117, some 118, none, some 119, some 120], [some 2, none], [], [none, none, none, some 4, some 5, some 6, some 10], [], [], [some 7, some 8, some 9, none, none, none], [], [], [], [some 11, some 12, none, none, none], [], [], [some 14, some 15, some 16, none, none, none], [], [], [], [some 18, some 19, some 20, none, none, none], [], [], [], [some 22, none, none], [some 23, some 27, some 31, some 35, some 39, some 43, some 47, some 51, some 55, some 59, some 63, some 67, some 71, some 75, some 79, some 83, some 87, some 91, some 95, some 99, some 103], [some 24, some 25, some 26, none, none, none], [], [], [], [some 28, some 29, some 30, none, none, none], [], [], [], [some 32, some 33, some 34, none, none, none], [], [], [], [some 36, some 37, some 38, none, none, none], [], [], [], [some 40, some 41, some 42, none, none, none], [], [], [], [some 44, some 45, some 46, none, none, none], [], [], [], [some 48, some 49, some 50, none, none, none], [], [], [], [some 52, some 53, some 54, none, none, none], [], [], [], [some 56, some 57, some 58, none, none, none], [], [], [], [some 60, some 61, some 62, none, none, none], [], [], [], [some 64, some 65, some 66, none, none, none], [], [], [], [some 68, some 69, some 70, none, none, none], [], [], [], [some 72, some 73, some 74, none, none, none], [], [], [], [some 76, some 77, some 78, none, none, none], [], [], [], [some 80, some 81, some 82, none, none, none], [], [], [], [some 84, some 85, some 86, none, none, none], [], [], [], [some 88, some 89, some 90, none, none, none], [], [], [], [some 92, some 93, some 94, none, none, none], [], [], [], [some 96, some 97, some 98, none, none, none], [], [], [], [some 100, some 101, some 102, none, none, none], [], [], [], [some 104, some 105, some 106, none, none, none], [], [], [], [some 128, some 132, some 136], [], [some 110, some 111, some 112, some 113, none], [], [], [], [some 114, some 115, some 116, none, none, none], [], [], [], [], [], [none, none, none], [some 121, some 125, some 126, some 127, none, none, none, none, none, none], [some 122, some 123, some 124, none, none, none], [], [], [], [], [], [], [some 129, some 130, some 131, none, none, none], [], [], [], [some 133, some 134, some 135, none, none, none], [], [], [], [some 137, some 138, some 139, none, none, none], [], [], [], [none, none, some 141, none, none, none, none, some 142, some 143, some 144, some 145, some 146, none, none, none, none, some 147, some 148, some 149, none, none, some 150, some 151, none, none, some 152, some 153, some 154, none, none, none, none, none, some 155, some 156, some 157, some 158, some 159, none, none, none, some 160, none, some 161, some 162, some 163, some 164, some 165, none, none, none, none, none, some 166, none, some 167, some 168, some 169, some 170, some 171, some 172, some 173], [], [], [], [], [], [], [], [], [], [], [], [], [], [], [], [], [], [], [], [], [], [], [], [], [], [], [], [], [], [], [], [], [], []]
def sw_lay (G : sw_G) : Prop := G.1 = none ∧ ∀ k, k < 175 → k ∈ G.2.1 ∧ G.2.2.1 k = sw_K0.getD k 99 ∧ G.2.2.2.1 k = sw_N0.getD k 0 ∧ ∀ j, G.2.2.2.2 k j = (sw_R0.getD k []).getD j none
section LAY
variable {G : sw_G}
theorem lk0 (h : sw_lay G) : 0 ∈ G.2.1 ∧ G.2.2.1 0 = 9 := ⟨(h.2 0 (by decide)).1, (h.2 0 (by decide)).2.1⟩
theorem lk1 (h : sw_lay G) : 1 ∈ G.2.1 ∧ G.2.2.1 1 = 8 := ⟨(h.2 1 (by decide)).1, (h.2 1 (by decide)).2.1⟩
theorem lk2 (h : sw_lay G) : 2 ∈ G.2.1 ∧ G.2.2.1 2 = 50 := ⟨(h.2 2 (by decide)).1, (h.2 2 (by decide)).2.1⟩
theorem lk3 (h : sw_lay G) : 3 ∈ G.2.1 ∧ G.2.2.1 3 = 1 := ⟨(h.2 3 (by decide)).1, (h.2 3 (by decide)).2.1⟩
theorem lk4 (h : sw_lay G) : 4 ∈ G.2.1 ∧ G.2.2.1 4 = 50 := ⟨(h.2 4 (by decide)).1, (h.2 4 (by decide)).2.1⟩
theorem lk5 (h : sw_lay G) : 5 ∈ G.2.1 ∧ G.2.2.1 5 = 50 := ⟨(h.2 5 (by decide)).1, (h.2 5 (by decide)).2.1⟩
theorem lk6 (h : sw_lay G) : 6 ∈ G.2.1 ∧ G.2.2.1 6 = 2 := ⟨(h.2 6 (by decide)).1, (h.2 6 (by decide)).2.1⟩
theorem lk7 (h : sw_lay G) : 7 ∈ G.2.1 ∧ G.2.2.1 7 = 50 := ⟨(h.2 7 (by decide)).1, (h.2 7 (by decide)).2.1⟩
theorem lk8 (h : sw_lay G) : 8 ∈ G.2.1 ∧ G.2.2.1 8 = 50 := ⟨(h.2 8 (by decide)).1, (h.2 8 (by decide)).2.1⟩
theorem lk9 (h : sw_lay G) : 9 ∈ G.2.1 ∧ G.2.2.1 9 = 50 := ⟨(h.2 9 (by decide)).1, (h.2 9 (by decide)).2.1⟩
theorem lk10 (h : sw_lay G) : 10 ∈ G.2.1 ∧ G.2.2.1 10 = 5 := ⟨(h.2 10 (by decide)).1, (h.2 10 (by decide)).2.1⟩
theorem lk11 (h : sw_lay G) : 11 ∈ G.2.1 ∧ G.2.2.1 11 = 50 := ⟨(h.2 11 (by decide)).1, (h.2 11 (by decide)).2.1⟩
theorem lk12 (h : sw_lay G) : 12 ∈ G.2.1 ∧ G.2.2.1 12 = 50 := ⟨(h.2 12 (by decide)).1, (h.2 12 (by decide)).2.1⟩
theorem lk13 (h : sw_lay G) : 13 ∈ G.2.1 ∧ G.2.2.1 13 = 3 := ⟨(h.2 13 (by decide)).1, (h.2 13 (by decide)).2.1⟩
theorem lk14 (h : sw_lay G) : 14 ∈ G.2.1 ∧ G.2.2.1 14 = 50 := ⟨(h.2 14 (by decide)).1, (h.2 14 (by decide)).2.1⟩
theorem lk15 (h : sw_lay G) : 15 ∈ G.2.1 ∧ G.2.2.1 15 = 50 := ⟨(h.2 15 (by decide)).1, (h.2 15 (by decide)).2.1⟩
theorem lk16 (h : sw_lay G) : 16 ∈ G.2.1 ∧ G.2.2.1 16 = 50 := ⟨(h.2 16 (by decide)).1, (h.2 16 (by decide)).2.1⟩
theorem lk17 (h : sw_lay G) : 17 ∈ G.2.1 ∧ G.2.2.1 17 = 3 := ⟨(h.2 17 (by decide)).1, (h.2 17 (by decide)).2.1⟩
theorem lk18 (h : sw_lay G) : 18 ∈ G.2.1 ∧ G.2.2.1 18 = 50 := ⟨(h.2 18 (by decide)).1, (h.2 18 (by decide)).2.1⟩
theorem lk19 (h : sw_lay G) : 19 ∈ G.2.1 ∧ G.2.2.1 19 = 50 := ⟨(h.2 19 (by decide)).1, (h.2 19 (by decide)).2.1⟩
theorem lk20 (h : sw_lay G) : 20 ∈ G.2.1 ∧ G.2.2.1 20 = 50 := ⟨(h.2 20 (by decide)).1, (h.2 20 (by decide)).2.1⟩
theorem lk21 (h : sw_lay G) : 21 ∈ G.2.1 ∧ G.2.2.1 21 = 4 := ⟨(h.2 21 (by decide)).1, (h.2 21 (by decide)).2.1⟩
theorem lk22 (h : sw_lay G) : 22 ∈ G.2.1 ∧ G.2.2.1 22 = 53 := ⟨(h.2 22 (by decide)).1, (h.2 22 (by decide)).2.1⟩
theorem lk23 (h : sw_lay G) : 23 ∈ G.2.1 ∧ G.2.2.1 23 = 3 := ⟨(h.2 23 (by decide)).1, (h.2 23 (by decide)).2.1⟩
theorem lk24 (h : sw_lay G) : 24 ∈ G.2.1 ∧ G.2.2.1 24 = 50 := ⟨(h.2 24 (by decide)).1, (h.2 24 (by decide)).2.1⟩
theorem lk25 (h : sw_lay G) : 25 ∈ G.2.1 ∧ G.2.2.1 25 = 50 := ⟨(h.2 25 (by decide)).1, (h.2 25 (by decide)).2.1⟩
theorem lk26 (h : sw_lay G) : 26 ∈ G.2.1 ∧ G.2.2.1 26 = 50 := ⟨(h.2 26 (by decide)).1, (h.2 26 (by decide)).2.1⟩
theorem lk27 (h : sw_lay G) : 27 ∈ G.2.1 ∧ G.2.2.1 27 = 3 := ⟨(h.2 27 (by decide)).1, (h.2 27 (by decide)).2.1⟩
theorem lk28 (h : sw_lay G) : 28 ∈ G.2.1 ∧ G.2.2.1 28 = 50 := ⟨(h.2 28 (by decide)).1, (h.2 28 (by decide)).2.1⟩
theorem lk29 (h : sw_lay G) : 29 ∈ G.2.1 ∧ G.2.2.1 29 = 50 := ⟨(h.2 29 (by decide)).1, (h.2 29 (by decide)).2.1⟩
theorem lk30 (h : sw_lay G) : 30 ∈ G.2.1 ∧ G.2.2.1 30 = 50 := ⟨(h.2 30 (by decide)).1, (h.2 30 (by decide)).2.1⟩
theorem lk31 (h : sw_lay G) : 31 ∈ G.2.1 ∧ G.2.2.1 31 = 3 := ⟨(h.2 31 (by decide)).1, (h.2 31 (by decide)).2.1⟩
theorem lk32 (h : sw_lay G) : 32 ∈ G.2.1 ∧ G.2.2.1 32 = 50 := ⟨(h.2 32 (by decide)).1, (h.2 32 (by decide)).2.1⟩
theorem lk33 (h : sw_lay G) : 33 ∈ G.2.1 ∧ G.2.2.1 33 = 50 := ⟨(h.2 33 (by decide)).1, (h.2 33 (by decide)).2.1⟩
theorem lk34 (h : sw_lay G) : 34 ∈ G.2.1 ∧ G.2.2.1 34 = 50 := ⟨(h.2 34 (by decide)).1, (h.2 34 (by decide)).2.1⟩
theorem lk35 (h : sw_lay G) : 35 ∈ G.2.1 ∧ G.2.2.1 35 = 3 := ⟨(h.2 35 (by decide)).1, (h.2 35 (by decide)).2.1⟩
theorem lk36 (h : sw_lay G) : 36 ∈ G.2.1 ∧ G.2.2.1 36 = 50 := ⟨(h.2 36 (by decide)).1, (h.2 36 (by decide)).2.1⟩
theorem lk37 (h : sw_lay G) : 37 ∈ G.2.1 ∧ G.2.2.1 37 = 50 := ⟨(h.2 37 (by decide)).1, (h.2 37 (by decide)).2.1⟩
theorem lk38 (h : sw_lay G) : 38 ∈ G.2.1 ∧ G.2.2.1 38 = 50 := ⟨(h.2 38 (by decide)).1, (h.2 38 (by decide)).2.1⟩
theorem lk39 (h : sw_lay G) : 39 ∈ G.2.1 ∧ G.2.2.1 39 = 3 := ⟨(h.2 39 (by decide)).1, (h.2 39 (by decide)).2.1⟩
theorem lk40 (h : sw_lay G) : 40 ∈ G.2.1 ∧ G.2.2.1 40 = 50 := ⟨(h.2 40 (by decide)).1, (h.2 40 (by decide)).2.1⟩
theorem lk41 (h : sw_lay G) : 41 ∈ G.2.1 ∧ G.2.2.1 41 = 50 := ⟨(h.2 41 (by decide)).1, (h.2 41 (by decide)).2.1⟩
theorem lk42 (h : sw_lay G) : 42 ∈ G.2.1 ∧ G.2.2.1 42 = 50 := ⟨(h.2 42 (by decide)).1, (h.2 42 (by decide)).2.1⟩
theorem lk43 (h : sw_lay G) : 43 ∈ G.2.1 ∧ G.2.2.1 43 = 3 := ⟨(h.2 43 (by decide)).1, (h.2 43 (by decide)).2.1⟩
theorem lk44 (h : sw_lay G) : 44 ∈ G.2.1 ∧ G.2.2.1 44 = 50 := ⟨(h.2 44 (by decide)).1, (h.2 44 (by decide)).2.1⟩
theorem lk45 (h : sw_lay G) : 45 ∈ G.2.1 ∧ G.2.2.1 45 = 50 := ⟨(h.2 45 (by decide)).1, (h.2 45 (by decide)).2.1⟩
theorem lk46 (h : sw_lay G) : 46 ∈ G.2.1 ∧ G.2.2.1 46 = 50 := ⟨(h.2 46 (by decide)).1, (h.2 46 (by decide)).2.1⟩
theorem lk47 (h : sw_lay G) : 47 ∈ G.2.1 ∧ G.2.2.1 47 = 3 := ⟨(h.2 47 (by decide)).1, (h.2 47 (by decide)).2.1⟩
theorem lk48 (h : sw_lay G) : 48 ∈ G.2.1 ∧ G.2.2.1 48 = 50 := ⟨(h.2 48 (by decide)).1, (h.2 48 (by decide)).2.1⟩
theorem lk49 (h : sw_lay G) : 49 ∈ G.2.1 ∧ G.2.2.1 49 = 50 := ⟨(h.2 49 (by decide)).1, (h.2 49 (by decide)).2.1⟩
theorem lk50 (h : sw_lay G) : 50 ∈ G.2.1 ∧ G.2.2.1 50 = 50 := ⟨(h.2 50 (by decide)).1, (h.2 50 (by decide)).2.1⟩
theorem lk51 (h : sw_lay G) : 51 ∈ G.2.1 ∧ G.2.2.1 51 = 3 := ⟨(h.2 51 (by decide)).1, (h.2 51 (by decide)).2.1⟩
theorem lk52 (h : sw_lay G) : 52 ∈ G.2.1 ∧ G.2.2.1 52 = 50 := ⟨(h.2 52 (by decide)).1, (h.2 52 (by decide)).2.1⟩
theorem lk53 (h : sw_lay G) : 53 ∈ G.2.1 ∧ G.2.2.1 53 = 50 := ⟨(h.2 53 (by decide)).1, (h.2 53 (by decide)).2.1⟩
theorem lk54 (h : sw_lay G) : 54 ∈ G.2.1 ∧ G.2.2.1 54 = 50 := ⟨(h.2 54 (by decide)).1, (h.2 54 (by decide)).2.1⟩
theorem lk55 (h : sw_lay G) : 55 ∈ G.2.1 ∧ G.2.2.1 55 = 3 := ⟨(h.2 55 (by decide)).1, (h.2 55 (by decide)).2.1⟩
theorem lk56 (h : sw_lay G) : 56 ∈ G.2.1 ∧ G.2.2.1 56 = 50 := ⟨(h.2 56 (by decide)).1, (h.2 56 (by decide)).2.1⟩
theorem lk57 (h : sw_lay G) : 57 ∈ G.2.1 ∧ G.2.2.1 57 = 50 := ⟨(h.2 57 (by decide)).1, (h.2 57 (by decide)).2.1⟩
theorem lk58 (h : sw_lay G) : 58 ∈ G.2.1 ∧ G.2.2.1 58 = 50 := ⟨(h.2 58 (by decide)).1, (h.2 58 (by decide)).2.1⟩
theorem lk59 (h : sw_lay G) : 59 ∈ G.2.1 ∧ G.2.2.1 59 = 3 := ⟨(h.2 59 (by decide)).1, (h.2 59 (by decide)).2.1⟩
theorem lk60 (h : sw_lay G) : 60 ∈ G.2.1 ∧ G.2.2.1 60 = 50 := ⟨(h.2 60 (by decide)).1, (h.2 60 (by decide)).2.1⟩
theorem lk61 (h : sw_lay G) : 61 ∈ G.2.1 ∧ G.2.2.1 61 = 50 := ⟨(h.2 61 (by decide)).1, (h.2 61 (by decide)).2.1⟩
theorem lk62 (h : sw_lay G) : 62 ∈ G.2.1 ∧ G.2.2.1 62 = 50 := ⟨(h.2 62 (by decide)).1, (h.2 62 (by decide)).2.1⟩
theorem lk63 (h : sw_lay G) : 63 ∈ G.2.1 ∧ G.2.2.1 63 = 3 := ⟨(h.2 63 (by decide)).1, (h.2 63 (by decide)).2.1⟩
theorem lk64 (h : sw_lay G) : 64 ∈ G.2.1 ∧ G.2.2.1 64 = 50 := ⟨(h.2 64 (by decide)).1, (h.2 64 (by decide)).2.1⟩
theorem lk65 (h : sw_lay G) : 65 ∈ G.2.1 ∧ G.2.2.1 65 = 50 := ⟨(h.2 65 (by decide)).1, (h.2 65 (by decide)).2.1⟩
theorem lk66 (h : sw_lay G) : 66 ∈ G.2.1 ∧ G.2.2.1 66 = 50 := ⟨(h.2 66 (by decide)).1, (h.2 66 (by decide)).2.1⟩
theorem lk67 (h : sw_lay G) : 67 ∈ G.2.1 ∧ G.2.2.1 67 = 3 := ⟨(h.2 67 (by decide)).1, (h.2 67 (by decide)).2.1⟩
theorem lk68 (h : sw_lay G) : 68 ∈ G.2.1 ∧ G.2.2.1 68 = 50 := ⟨(h.2 68 (by decide)).1, (h.2 68 (by decide)).2.1⟩
theorem lk69 (h : sw_lay G) : 69 ∈ G.2.1 ∧ G.2.2.1 69 = 50 := ⟨(h.2 69 (by decide)).1, (h.2 69 (by decide)).2.1⟩
theorem lk70 (h : sw_lay G) : 70 ∈ G.2.1 ∧ G.2.2.1 70 = 50 := ⟨(h.2 70 (by decide)).1, (h.2 70 (by decide)).2.1⟩
theorem lk71 (h : sw_lay G) : 71 ∈ G.2.1 ∧ G.2.2.1 71 = 3 := ⟨(h.2 71 (by decide)).1, (h.2 71 (by decide)).2.1⟩
theorem lk72 (h : sw_lay G) : 72 ∈ G.2.1 ∧ G.2.2.1 72 = 50 := ⟨(h.2 72 (by decide)).1, (h.2 72 (by decide)).2.1⟩
theorem lk73 (h : sw_lay G) : 73 ∈ G.2.1 ∧ G.2.2.1 73 = 50 := ⟨(h.2 73 (by decide)).1, (h.2 73 (by decide)).2.1⟩
theorem lk74 (h : sw_lay G) : 74 ∈ G.2.1 ∧ G.2.2.1 74 = 50 := ⟨(h.2 74 (by decide)).1, (h.2 74 (by decide)).2.1⟩
theorem lk75 (h : sw_lay G) : 75 ∈ G.2.1 ∧ G.2.2.1 75 = 3 := ⟨(h.2 75 (by decide)).1, (h.2 75 (by decide)).2.1⟩
theorem lk76 (h : sw_lay G) : 76 ∈ G.2.1 ∧ G.2.2.1 76 = 50 := ⟨(h.2 76 (by decide)).1, (h.2 76 (by decide)).2.1⟩
theorem lk77 (h : sw_lay G) : 77 ∈ G.2.1 ∧ G.2.2.1 77 = 50 := ⟨(h.2 77 (by decide)).1, (h.2 77 (by decide)).2.1⟩
theorem lk78 (h : sw_lay G) : 78 ∈ G.2.1 ∧ G.2.2.1 78 = 50 := ⟨(h.2 78 (by decide)).1, (h.2 78 (by decide)).2.1⟩
theorem lk79 (h : sw_lay G) : 79 ∈ G.2.1 ∧ G.2.2.1 79 = 3 := ⟨(h.2 79 (by decide)).1, (h.2 79 (by decide)).2.1⟩
theorem lk80 (h : sw_lay G) : 80 ∈ G.2.1 ∧ G.2.2.1 80 = 50 := ⟨(h.2 80 (by decide)).1, (h.2 80 (by decide)).2.1⟩
theorem lk81 (h : sw_lay G) : 81 ∈ G.2.1 ∧ G.2.2.1 81 = 50 := ⟨(h.2 81 (by decide)).1, (h.2 81 (by decide)).2.1⟩
theorem lk82 (h : sw_lay G) : 82 ∈ G.2.1 ∧ G.2.2.1 82 = 50 := ⟨(h.2 82 (by decide)).1, (h.2 82 (by decide)).2.1⟩
theorem lk83 (h : sw_lay G) : 83 ∈ G.2.1 ∧ G.2.2.1 83 = 3 := ⟨(h.2 83 (by decide)).1, (h.2 83 (by decide)).2.1⟩
theorem lk84 (h : sw_lay G) : 84 ∈ G.2.1 ∧ G.2.2.1 84 = 50 := ⟨(h.2 84 (by decide)).1, (h.2 84 (by decide)).2.1⟩
theorem lk85 (h : sw_lay G) : 85 ∈ G.2.1 ∧ G.2.2.1 85 = 50 := ⟨(h.2 85 (by decide)).1, (h.2 85 (by decide)).2.1⟩
theorem lk86 (h : sw_lay G) : 86 ∈ G.2.1 ∧ G.2.2.1 86 = 50 := ⟨(h.2 86 (by decide)).1, (h.2 86 (by decide)).2.1⟩
theorem lk87 (h : sw_lay G) : 87 ∈ G.2.1 ∧ G.2.2.1 87 = 3 := ⟨(h.2 87 (by decide)).1, (h.2 87 (by decide)).2.1⟩
theorem lk88 (h : sw_lay G) : 88 ∈ G.2.1 ∧ G.2.2.1 88 = 50 := ⟨(h.2 88 (by decide)).1, (h.2 88 (by decide)).2.1⟩
theorem lk89 (h : sw_lay G) : 89 ∈ G.2.1 ∧ G.2.2.1 89 = 50 := ⟨(h.2 89 (by decide)).1, (h.2 89 (by decide)).2.1⟩
theorem lk90 (h : sw_lay G) : 90 ∈ G.2.1 ∧ G.2.2.1 90 = 50 := ⟨(h.2 90 (by decide)).1, (h.2 90 (by decide)).2.1⟩
theorem lk91 (h : sw_lay G) : 91 ∈ G.2.1 ∧ G.2.2.1 91 = 3 := ⟨(h.2 91 (by decide)).1, (h.2 91 (by decide)).2.1⟩
theorem lk92 (h : sw_lay G) : 92 ∈ G.2.1 ∧ G.2.2.1 92 = 50 := ⟨(h.2 92 (by decide)).1, (h.2 92 (by decide)).2.1⟩
theorem lk93 (h : sw_lay G) : 93 ∈ G.2.1 ∧ G.2.2.1 93 = 50 := ⟨(h.2 93 (by decide)).1, (h.2 93 (by decide)).2.1⟩
theorem lk94 (h : sw_lay G) : 94 ∈ G.2.1 ∧ G.2.2.1 94 = 50 := ⟨(h.2 94 (by decide)).1, (h.2 94 (by decide)).2.1⟩
theorem lk95 (h : sw_lay G) : 95 ∈ G.2.1 ∧ G.2.2.1 95 = 3 := ⟨(h.2 95 (by decide)).1, (h.2 95 (by decide)).2.1⟩
theorem lk96 (h : sw_lay G) : 96 ∈ G.2.1 ∧ G.2.2.1 96 = 50 := ⟨(h.2 96 (by decide)).1, (h.2 96 (by decide)).2.1⟩
theorem lk97 (h : sw_lay G) : 97 ∈ G.2.1 ∧ G.2.2.1 97 = 50 := ⟨(h.2 97 (by decide)).1, (h.2 97 (by decide)).2.1⟩
theorem lk98 (h : sw_lay G) : 98 ∈ G.2.1 ∧ G.2.2.1 98 = 50 := ⟨(h.2 98 (by decide)).1, (h.2 98 (by decide)).2.1⟩
theorem lk99 (h : sw_lay G) : 99 ∈ G.2.1 ∧ G.2.2.1 99 = 3 := ⟨(h.2 99 (by decide)).1, (h.2 99 (by decide)).2.1⟩
theorem lk100 (h : sw_lay G) : 100 ∈ G.2.1 ∧ G.2.2.1 100 = 50 := ⟨(h.2 100 (by decide)).1, (h.2 100 (by decide)).2.1⟩
theorem lk101 (h : sw_lay G) : 101 ∈ G.2.1 ∧ G.2.2.1 101 = 50 := ⟨(h.2 101 (by decide)).1, (h.2 101 (by decide)).2.1⟩
theorem lk102 (h : sw_lay G) : 102 ∈ G.2.1 ∧ G.2.2.1 102 = 50 := ⟨(h.2 102 (by decide)).1, (h.2 102 (by decide)).2.1⟩
theorem lk103 (h : sw_lay G) : 103 ∈ G.2.1 ∧ G.2.2.1 103 = 3 := ⟨(h.2 103 (by decide)).1, (h.2 103 (by decide)).2.1⟩
theorem lk104 (h : sw_lay G) : 104 ∈ G.2.1 ∧ G.2.2.1 104 = 50 := ⟨(h.2 104 (by decide)).1, (h.2 104 (by decide)).2.1⟩
theorem lk105 (h : sw_lay G) : 105 ∈ G.2.1 ∧ G.2.2.1 105 = 50 := ⟨(h.2 105 (by decide)).1, (h.2 105 (by decide)).2.1⟩
theorem lk106 (h : sw_lay G) : 106 ∈ G.2.1 ∧ G.2.2.1 106 = 50 := ⟨(h.2 106 (by decide)).1, (h.2 106 (by decide)).2.1⟩
theorem lk107 (h : sw_lay G) : 107 ∈ G.2.1 ∧ G.2.2.1 107 = 53 := ⟨(h.2 107 (by decide)).1, (h.2 107 (by decide)).2.1⟩
theorem lk108 (h : sw_lay G) : 108 ∈ G.2.1 ∧ G.2.2.1 108 = 52 := ⟨(h.2 108 (by decide)).1, (h.2 108 (by decide)).2.1⟩
theorem lk109 (h : sw_lay G) : 109 ∈ G.2.1 ∧ G.2.2.1 109 = 7 := ⟨(h.2 109 (by decide)).1, (h.2 109 (by decide)).2.1⟩
theorem lk110 (h : sw_lay G) : 110 ∈ G.2.1 ∧ G.2.2.1 110 = 50 := ⟨(h.2 110 (by decide)).1, (h.2 110 (by decide)).2.1⟩
theorem lk111 (h : sw_lay G) : 111 ∈ G.2.1 ∧ G.2.2.1 111 = 50 := ⟨(h.2 111 (by decide)).1, (h.2 111 (by decide)).2.1⟩
theorem lk112 (h : sw_lay G) : 112 ∈ G.2.1 ∧ G.2.2.1 112 = 50 := ⟨(h.2 112 (by decide)).1, (h.2 112 (by decide)).2.1⟩
theorem lk113 (h : sw_lay G) : 113 ∈ G.2.1 ∧ G.2.2.1 113 = 3 := ⟨(h.2 113 (by decide)).1, (h.2 113 (by decide)).2.1⟩
theorem lk114 (h : sw_lay G) : 114 ∈ G.2.1 ∧ G.2.2.1 114 = 50 := ⟨(h.2 114 (by decide)).1, (h.2 114 (by decide)).2.1⟩
theorem lk115 (h : sw_lay G) : 115 ∈ G.2.1 ∧ G.2.2.1 115 = 50 := ⟨(h.2 115 (by decide)).1, (h.2 115 (by decide)).2.1⟩
theorem lk116 (h : sw_lay G) : 116 ∈ G.2.1 ∧ G.2.2.1 116 = 50 := ⟨(h.2 116 (by decide)).1, (h.2 116 (by decide)).2.1⟩
theorem lk117 (h : sw_lay G) : 117 ∈ G.2.1 ∧ G.2.2.1 117 = 51 := ⟨(h.2 117 (by decide)).1, (h.2 117 (by decide)).2.1⟩
theorem lk118 (h : sw_lay G) : 118 ∈ G.2.1 ∧ G.2.2.1 118 = 51 := ⟨(h.2 118 (by decide)).1, (h.2 118 (by decide)).2.1⟩
theorem lk119 (h : sw_lay G) : 119 ∈ G.2.1 ∧ G.2.2.1 119 = 0 := ⟨(h.2 119 (by decide)).1, (h.2 119 (by decide)).2.1⟩
theorem lk120 (h : sw_lay G) : 120 ∈ G.2.1 ∧ G.2.2.1 120 = 6 := ⟨(h.2 120 (by decide)).1, (h.2 120 (by decide)).2.1⟩
theorem lk121 (h : sw_lay G) : 121 ∈ G.2.1 ∧ G.2.2.1 121 = 3 := ⟨(h.2 121 (by decide)).1, (h.2 121 (by decide)).2.1⟩
theorem lk122 (h : sw_lay G) : 122 ∈ G.2.1 ∧ G.2.2.1 122 = 50 := ⟨(h.2 122 (by decide)).1, (h.2 122 (by decide)).2.1⟩
theorem lk123 (h : sw_lay G) : 123 ∈ G.2.1 ∧ G.2.2.1 123 = 50 := ⟨(h.2 123 (by decide)).1, (h.2 123 (by decide)).2.1⟩
theorem lk124 (h : sw_lay G) : 124 ∈ G.2.1 ∧ G.2.2.1 124 = 50 := ⟨(h.2 124 (by decide)).1, (h.2 124 (by decide)).2.1⟩
theorem lk125 (h : sw_lay G) : 125 ∈ G.2.1 ∧ G.2.2.1 125 = 51 := ⟨(h.2 125 (by decide)).1, (h.2 125 (by decide)).2.1⟩
theorem lk126 (h : sw_lay G) : 126 ∈ G.2.1 ∧ G.2.2.1 126 = 50 := ⟨(h.2 126 (by decide)).1, (h.2 126 (by decide)).2.1⟩
theorem lk127 (h : sw_lay G) : 127 ∈ G.2.1 ∧ G.2.2.1 127 = 50 := ⟨(h.2 127 (by decide)).1, (h.2 127 (by decide)).2.1⟩
theorem lk128 (h : sw_lay G) : 128 ∈ G.2.1 ∧ G.2.2.1 128 = 3 := ⟨(h.2 128 (by decide)).1, (h.2 128 (by decide)).2.1⟩
theorem lk129 (h : sw_lay G) : 129 ∈ G.2.1 ∧ G.2.2.1 129 = 50 := ⟨(h.2 129 (by decide)).1, (h.2 129 (by decide)).2.1⟩
theorem lk130 (h : sw_lay G) : 130 ∈ G.2.1 ∧ G.2.2.1 130 = 50 := ⟨(h.2 130 (by decide)).1, (h.2 130 (by decide)).2.1⟩
theorem lk131 (h : sw_lay G) : 131 ∈ G.2.1 ∧ G.2.2.1 131 = 50 := ⟨(h.2 131 (by decide)).1, (h.2 131 (by decide)).2.1⟩
theorem lk132 (h : sw_lay G) : 132 ∈ G.2.1 ∧ G.2.2.1 132 = 3 := ⟨(h.2 132 (by decide)).1, (h.2 132 (by decide)).2.1⟩
theorem lk133 (h : sw_lay G) : 133 ∈ G.2.1 ∧ G.2.2.1 133 = 50 := ⟨(h.2 133 (by decide)).1, (h.2 133 (by decide)).2.1⟩
theorem lk134 (h : sw_lay G) : 134 ∈ G.2.1 ∧ G.2.2.1 134 = 50 := ⟨(h.2 134 (by decide)).1, (h.2 134 (by decide)).2.1⟩
theorem lk135 (h : sw_lay G) : 135 ∈ G.2.1 ∧ G.2.2.1 135 = 50 := ⟨(h.2 135 (by decide)).1, (h.2 135 (by decide)).2.1⟩
theorem lk136 (h : sw_lay G) : 136 ∈ G.2.1 ∧ G.2.2.1 136 = 3 := ⟨(h.2 136 (by decide)).1, (h.2 136 (by decide)).2.1⟩
theorem lk137 (h : sw_lay G) : 137 ∈ G.2.1 ∧ G.2.2.1 137 = 50 := ⟨(h.2 137 (by decide)).1, (h.2 137 (by decide)).2.1⟩
theorem lk138 (h : sw_lay G) : 138 ∈ G.2.1 ∧ G.2.2.1 138 = 50 := ⟨(h.2 138 (by decide)).1, (h.2 138 (by decide)).2.1⟩
theorem lk139 (h : sw_lay G) : 139 ∈ G.2.1 ∧ G.2.2.1 139 = 50 := ⟨(h.2 139 (by decide)).1, (h.2 139 (by decide)).2.1⟩
theorem lk140 (h : sw_lay G) : 140 ∈ G.2.1 ∧ G.2.2.1 140 = 10 := ⟨(h.2 140 (by decide)).1, (h.2 140 (by decide)).2.1⟩
theorem lk141 (h : sw_lay G) : 141 ∈ G.2.1 ∧ G.2.2.1 141 = 51 := ⟨(h.2 141 (by decide)).1, (h.2 141 (by decide)).2.1⟩
theorem lk142 (h : sw_lay G) : 142 ∈ G.2.1 ∧ G.2.2.1 142 = 50 := ⟨(h.2 142 (by decide)).1, (h.2 142 (by decide)).2.1⟩
theorem lk143 (h : sw_lay G) : 143 ∈ G.2.1 ∧ G.2.2.1 143 = 50 := ⟨(h.2 143 (by decide)).1, (h.2 143 (by decide)).2.1⟩
theorem lk144 (h : sw_lay G) : 144 ∈ G.2.1 ∧ G.2.2.1 144 = 50 := ⟨(h.2 144 (by decide)).1, (h.2 144 (by decide)).2.1⟩
theorem lk145 (h : sw_lay G) : 145 ∈ G.2.1 ∧ G.2.2.1 145 = 50 := ⟨(h.2 145 (by decide)).1, (h.2 145 (by decide)).2.1⟩
theorem lk146 (h : sw_lay G) : 146 ∈ G.2.1 ∧ G.2.2.1 146 = 50 := ⟨(h.2 146 (by decide)).1, (h.2 146 (by decide)).2.1⟩
theorem lk147 (h : sw_lay G) : 147 ∈ G.2.1 ∧ G.2.2.1 147 = 50 := ⟨(h.2 147 (by decide)).1, (h.2 147 (by decide)).2.1⟩
theorem lk148 (h : sw_lay G) : 148 ∈ G.2.1 ∧ G.2.2.1 148 = 50 := ⟨(h.2 148 (by decide)).1, (h.2 148 (by decide)).2.1⟩
theorem lk149 (h : sw_lay G) : 149 ∈ G.2.1 ∧ G.2.2.1 149 = 50 := ⟨(h.2 149 (by decide)).1, (h.2 149 (by decide)).2.1⟩
theorem lk150 (h : sw_lay G) : 150 ∈ G.2.1 ∧ G.2.2.1 150 = 50 := ⟨(h.2 150 (by decide)).1, (h.2 150 (by decide)).2.1⟩
theorem lk151 (h : sw_lay G) : 151 ∈ G.2.1 ∧ G.2.2.1 151 = 50 := ⟨(h.2 151 (by decide)).1, (h.2 151 (by decide)).2.1⟩
theorem lk152 (h : sw_lay G) : 152 ∈ G.2.1 ∧ G.2.2.1 152 = 50 := ⟨(h.2 152 (by decide)).1, (h.2 152 (by decide)).2.1⟩
theorem lk153 (h : sw_lay G) : 153 ∈ G.2.1 ∧ G.2.2.1 153 = 50 := ⟨(h.2 153 (by decide)).1, (h.2 153 (by decide)).2.1⟩
theorem lk154 (h : sw_lay G) : 154 ∈ G.2.1 ∧ G.2.2.1 154 = 50 := ⟨(h.2 154 (by decide)).1, (h.2 154 (by decide)).2.1⟩
theorem lk155 (h : sw_lay G) : 155 ∈ G.2.1 ∧ G.2.2.1 155 = 50 := ⟨(h.2 155 (by decide)).1, (h.2 155 (by decide)).2.1⟩
theorem lk156 (h : sw_lay G) : 156 ∈ G.2.1 ∧ G.2.2.1 156 = 50 := ⟨(h.2 156 (by decide)).1, (h.2 156 (by decide)).2.1⟩
theorem lk157 (h : sw_lay G) : 157 ∈ G.2.1 ∧ G.2.2.1 157 = 50 := ⟨(h.2 157 (by decide)).1, (h.2 157 (by decide)).2.1⟩
theorem lk158 (h : sw_lay G) : 158 ∈ G.2.1 ∧ G.2.2.1 158 = 50 := ⟨(h.2 158 (by decide)).1, (h.2 158 (by decide)).2.1⟩
theorem lk159 (h : sw_lay G) : 159 ∈ G.2.1 ∧ G.2.2.1 159 = 50 := ⟨(h.2 159 (by decide)).1, (h.2 159 (by decide)).2.1⟩
theorem lk160 (h : sw_lay G) : 160 ∈ G.2.1 ∧ G.2.2.1 160 = 50 := ⟨(h.2 160 (by decide)).1, (h.2 160 (by decide)).2.1⟩
theorem lk161 (h : sw_lay G) : 161 ∈ G.2.1 ∧ G.2.2.1 161 = 51 := ⟨(h.2 161 (by decide)).1, (h.2 161 (by decide)).2.1⟩
theorem lk162 (h : sw_lay G) : 162 ∈ G.2.1 ∧ G.2.2.1 162 = 50 := ⟨(h.2 162 (by decide)).1, (h.2 162 (by decide)).2.1⟩
theorem lk163 (h : sw_lay G) : 163 ∈ G.2.1 ∧ G.2.2.1 163 = 50 := ⟨(h.2 163 (by decide)).1, (h.2 163 (by decide)).2.1⟩
theorem lk164 (h : sw_lay G) : 164 ∈ G.2.1 ∧ G.2.2.1 164 = 50 := ⟨(h.2 164 (by decide)).1, (h.2 164 (by decide)).2.1⟩
theorem lk165 (h : sw_lay G) : 165 ∈ G.2.1 ∧ G.2.2.1 165 = 50 := ⟨(h.2 165 (by decide)).1, (h.2 165 (by decide)).2.1⟩
theorem lk166 (h : sw_lay G) : 166 ∈ G.2.1 ∧ G.2.2.1 166 = 50 := ⟨(h.2 166 (by decide)).1, (h.2 166 (by decide)).2.1⟩
theorem lk167 (h : sw_lay G) : 167 ∈ G.2.1 ∧ G.2.2.1 167 = 50 := ⟨(h.2 167 (by decide)).1, (h.2 167 (by decide)).2.1⟩
theorem lk168 (h : sw_lay G) : 168 ∈ G.2.1 ∧ G.2.2.1 168 = 50 := ⟨(h.2 168 (by decide)).1, (h.2 168 (by decide)).2.1⟩
theorem lk169 (h : sw_lay G) : 169 ∈ G.2.1 ∧ G.2.2.1 169 = 50 := ⟨(h.2 169 (by decide)).1, (h.2 169 (by decide)).2.1⟩
theorem lk170 (h : sw_lay G) : 170 ∈ G.2.1 ∧ G.2.2.1 170 = 51 := ⟨(h.2 170 (by decide)).1, (h.2 170 (by decide)).2.1⟩
theorem lk171 (h : sw_lay G) : 171 ∈ G.2.1 ∧ G.2.2.1 171 = 52 := ⟨(h.2 171 (by decide)).1, (h.2 171 (by decide)).2.1⟩
theorem lk172 (h : sw_lay G) : 172 ∈ G.2.1 ∧ G.2.2.1 172 = 50 := ⟨(h.2 172 (by decide)).1, (h.2 172 (by decide)).2.1⟩
theorem lk173 (h : sw_lay G) : 173 ∈ G.2.1 ∧ G.2.2.1 173 = 50 := ⟨(h.2 173 (by decide)).1, (h.2 173 (by decide)).2.1⟩
theorem ln2 (h : sw_lay G) : G.2.2.2.1 2 = 80 := (h.2 2 (by decide)).2.2.1
theorem ln4 (h : sw_lay G) : G.2.2.2.1 4 = 10 := (h.2 4 (by decide)).2.2.1
theorem ln5 (h : sw_lay G) : G.2.2.2.1 5 = 10 := (h.2 5 (by decide)).2.2.1
theorem ln7 (h : sw_lay G) : G.2.2.2.1 7 = 40 := (h.2 7 (by decide)).2.2.1
theorem ln8 (h : sw_lay G) : G.2.2.2.1 8 = 40 := (h.2 8 (by decide)).2.2.1
theorem ln9 (h : sw_lay G) : G.2.2.2.1 9 = 40 := (h.2 9 (by decide)).2.2.1
theorem ln11 (h : sw_lay G) : G.2.2.2.1 11 = 9 := (h.2 11 (by decide)).2.2.1
theorem ln12 (h : sw_lay G) : G.2.2.2.1 12 = 9 := (h.2 12 (by decide)).2.2.1
theorem ln14 (h : sw_lay G) : G.2.2.2.1 14 = 10 := (h.2 14 (by decide)).2.2.1
theorem ln15 (h : sw_lay G) : G.2.2.2.1 15 = 10 := (h.2 15 (by decide)).2.2.1
theorem ln16 (h : sw_lay G) : G.2.2.2.1 16 = 10 := (h.2 16 (by decide)).2.2.1
theorem ln18 (h : sw_lay G) : G.2.2.2.1 18 = 10 := (h.2 18 (by decide)).2.2.1
theorem ln19 (h : sw_lay G) : G.2.2.2.1 19 = 10 := (h.2 19 (by decide)).2.2.1
theorem ln20 (h : sw_lay G) : G.2.2.2.1 20 = 10 := (h.2 20 (by decide)).2.2.1
theorem ln22 (h : sw_lay G) : G.2.2.2.1 22 = 21 := (h.2 22 (by decide)).2.2.1
theorem ln24 (h : sw_lay G) : G.2.2.2.1 24 = 10 := (h.2 24 (by decide)).2.2.1
theorem ln25 (h : sw_lay G) : G.2.2.2.1 25 = 10 := (h.2 25 (by decide)).2.2.1
theorem ln26 (h : sw_lay G) : G.2.2.2.1 26 = 10 := (h.2 26 (by decide)).2.2.1
theorem ln28 (h : sw_lay G) : G.2.2.2.1 28 = 10 := (h.2 28 (by decide)).2.2.1
theorem ln29 (h : sw_lay G) : G.2.2.2.1 29 = 10 := (h.2 29 (by decide)).2.2.1
theorem ln30 (h : sw_lay G) : G.2.2.2.1 30 = 10 := (h.2 30 (by decide)).2.2.1
theorem ln32 (h : sw_lay G) : G.2.2.2.1 32 = 10 := (h.2 32 (by decide)).2.2.1
theorem ln33 (h : sw_lay G) : G.2.2.2.1 33 = 10 := (h.2 33 (by decide)).2.2.1
theorem ln34 (h : sw_lay G) : G.2.2.2.1 34 = 10 := (h.2 34 (by decide)).2.2.1
theorem ln36 (h : sw_lay G) : G.2.2.2.1 36 = 10 := (h.2 36 (by decide)).2.2.1
theorem ln37 (h : sw_lay G) : G.2.2.2.1 37 = 10 := (h.2 37 (by decide)).2.2.1
theorem ln38 (h : sw_lay G) : G.2.2.2.1 38 = 10 := (h.2 38 (by decide)).2.2.1
theorem ln40 (h : sw_lay G) : G.2.2.2.1 40 = 10 := (h.2 40 (by decide)).2.2.1
theorem ln41 (h : sw_lay G) : G.2.2.2.1 41 = 10 := (h.2 41 (by decide)).2.2.1
theorem ln42 (h : sw_lay G) : G.2.2.2.1 42 = 10 := (h.2 42 (by decide)).2.2.1
theorem ln44 (h : sw_lay G) : G.2.2.2.1 44 = 10 := (h.2 44 (by decide)).2.2.1
theorem ln45 (h : sw_lay G) : G.2.2.2.1 45 = 10 := (h.2 45 (by decide)).2.2.1
theorem ln46 (h : sw_lay G) : G.2.2.2.1 46 = 10 := (h.2 46 (by decide)).2.2.1
theorem ln48 (h : sw_lay G) : G.2.2.2.1 48 = 10 := (h.2 48 (by decide)).2.2.1
theorem ln49 (h : sw_lay G) : G.2.2.2.1 49 = 10 := (h.2 49 (by decide)).2.2.1
theorem ln50 (h : sw_lay G) : G.2.2.2.1 50 = 10 := (h.2 50 (by decide)).2.2.1
theorem ln52 (h : sw_lay G) : G.2.2.2.1 52 = 10 := (h.2 52 (by decide)).2.2.1
theorem ln53 (h : sw_lay G) : G.2.2.2.1 53 = 10 := (h.2 53 (by decide)).2.2.1
theorem ln54 (h : sw_lay G) : G.2.2.2.1 54 = 10 := (h.2 54 (by decide)).2.2.1
theorem ln56 (h : sw_lay G) : G.2.2.2.1 56 = 10 := (h.2 56 (by decide)).2.2.1
theorem ln57 (h : sw_lay G) : G.2.2.2.1 57 = 10 := (h.2 57 (by decide)).2.2.1
theorem ln58 (h : sw_lay G) : G.2.2.2.1 58 = 10 := (h.2 58 (by decide)).2.2.1
theorem ln60 (h : sw_lay G) : G.2.2.2.1 60 = 10 := (h.2 60 (by decide)).2.2.1
theorem ln61 (h : sw_lay G) : G.2.2.2.1 61 = 10 := (h.2 61 (by decide)).2.2.1
theorem ln62 (h : sw_lay G) : G.2.2.2.1 62 = 10 := (h.2 62 (by decide)).2.2.1
theorem ln64 (h : sw_lay G) : G.2.2.2.1 64 = 10 := (h.2 64 (by decide)).2.2.1
theorem ln65 (h : sw_lay G) : G.2.2.2.1 65 = 10 := (h.2 65 (by decide)).2.2.1
theorem ln66 (h : sw_lay G) : G.2.2.2.1 66 = 10 := (h.2 66 (by decide)).2.2.1
theorem ln68 (h : sw_lay G) : G.2.2.2.1 68 = 10 := (h.2 68 (by decide)).2.2.1
theorem ln69 (h : sw_lay G) : G.2.2.2.1 69 = 10 := (h.2 69 (by decide)).2.2.1
theorem ln70 (h : sw_lay G) : G.2.2.2.1 70 = 10 := (h.2 70 (by decide)).2.2.1
theorem ln72 (h : sw_lay G) : G.2.2.2.1 72 = 10 := (h.2 72 (by decide)).2.2.1
theorem ln73 (h : sw_lay G) : G.2.2.2.1 73 = 10 := (h.2 73 (by decide)).2.2.1
theorem ln74 (h : sw_lay G) : G.2.2.2.1 74 = 10 := (h.2 74 (by decide)).2.2.1
theorem ln76 (h : sw_lay G) : G.2.2.2.1 76 = 10 := (h.2 76 (by decide)).2.2.1
theorem ln77 (h : sw_lay G) : G.2.2.2.1 77 = 10 := (h.2 77 (by decide)).2.2.1
theorem ln78 (h : sw_lay G) : G.2.2.2.1 78 = 10 := (h.2 78 (by decide)).2.2.1
theorem ln80 (h : sw_lay G) : G.2.2.2.1 80 = 10 := (h.2 80 (by decide)).2.2.1
theorem ln81 (h : sw_lay G) : G.2.2.2.1 81 = 10 := (h.2 81 (by decide)).2.2.1
theorem ln82 (h : sw_lay G) : G.2.2.2.1 82 = 10 := (h.2 82 (by decide)).2.2.1
theorem ln84 (h : sw_lay G) : G.2.2.2.1 84 = 10 := (h.2 84 (by decide)).2.2.1
theorem ln85 (h : sw_lay G) : G.2.2.2.1 85 = 10 := (h.2 85 (by decide)).2.2.1
theorem ln86 (h : sw_lay G) : G.2.2.2.1 86 = 10 := (h.2 86 (by decide)).2.2.1
theorem ln88 (h : sw_lay G) : G.2.2.2.1 88 = 10 := (h.2 88 (by decide)).2.2.1
theorem ln89 (h : sw_lay G) : G.2.2.2.1 89 = 10 := (h.2 89 (by decide)).2.2.1
theorem ln90 (h : sw_lay G) : G.2.2.2.1 90 = 10 := (h.2 90 (by decide)).2.2.1
theorem ln92 (h : sw_lay G) : G.2.2.2.1 92 = 10 := (h.2 92 (by decide)).2.2.1
theorem ln93 (h : sw_lay G) : G.2.2.2.1 93 = 10 := (h.2 93 (by decide)).2.2.1
theorem ln94 (h : sw_lay G) : G.2.2.2.1 94 = 10 := (h.2 94 (by decide)).2.2.1
theorem ln96 (h : sw_lay G) : G.2.2.2.1 96 = 10 := (h.2 96 (by decide)).2.2.1
theorem ln97 (h : sw_lay G) : G.2.2.2.1 97 = 10 := (h.2 97 (by decide)).2.2.1
theorem ln98 (h : sw_lay G) : G.2.2.2.1 98 = 10 := (h.2 98 (by decide)).2.2.1
theorem ln100 (h : sw_lay G) : G.2.2.2.1 100 = 10 := (h.2 100 (by decide)).2.2.1
theorem ln101 (h : sw_lay G) : G.2.2.2.1 101 = 10 := (h.2 101 (by decide)).2.2.1
theorem ln102 (h : sw_lay G) : G.2.2.2.1 102 = 10 := (h.2 102 (by decide)).2.2.1
theorem ln104 (h : sw_lay G) : G.2.2.2.1 104 = 10 := (h.2 104 (by decide)).2.2.1
theorem ln105 (h : sw_lay G) : G.2.2.2.1 105 = 10 := (h.2 105 (by decide)).2.2.1
theorem ln106 (h : sw_lay G) : G.2.2.2.1 106 = 10 := (h.2 106 (by decide)).2.2.1
theorem ln107 (h : sw_lay G) : G.2.2.2.1 107 = 3 := (h.2 107 (by decide)).2.2.1
theorem ln108 (h : sw_lay G) : G.2.2.2.1 108 = 3 := (h.2 108 (by decide)).2.2.1
theorem ln110 (h : sw_lay G) : G.2.2.2.1 110 = 8 := (h.2 110 (by decide)).2.2.1
theorem ln111 (h : sw_lay G) : G.2.2.2.1 111 = 8 := (h.2 111 (by decide)).2.2.1
theorem ln112 (h : sw_lay G) : G.2.2.2.1 112 = 8 := (h.2 112 (by decide)).2.2.1
theorem ln114 (h : sw_lay G) : G.2.2.2.1 114 = 10 := (h.2 114 (by decide)).2.2.1
theorem ln115 (h : sw_lay G) : G.2.2.2.1 115 = 10 := (h.2 115 (by decide)).2.2.1
theorem ln116 (h : sw_lay G) : G.2.2.2.1 116 = 10 := (h.2 116 (by decide)).2.2.1
theorem ln117 (h : sw_lay G) : G.2.2.2.1 117 = 9 := (h.2 117 (by decide)).2.2.1
theorem ln118 (h : sw_lay G) : G.2.2.2.1 118 = 12 := (h.2 118 (by decide)).2.2.1
theorem ln122 (h : sw_lay G) : G.2.2.2.1 122 = 10 := (h.2 122 (by decide)).2.2.1
theorem ln123 (h : sw_lay G) : G.2.2.2.1 123 = 10 := (h.2 123 (by decide)).2.2.1
theorem ln124 (h : sw_lay G) : G.2.2.2.1 124 = 10 := (h.2 124 (by decide)).2.2.1
theorem ln125 (h : sw_lay G) : G.2.2.2.1 125 = 3000 := (h.2 125 (by decide)).2.2.1
theorem ln126 (h : sw_lay G) : G.2.2.2.1 126 = 3000 := (h.2 126 (by decide)).2.2.1
theorem ln127 (h : sw_lay G) : G.2.2.2.1 127 = 4096 := (h.2 127 (by decide)).2.2.1
theorem ln129 (h : sw_lay G) : G.2.2.2.1 129 = 10 := (h.2 129 (by decide)).2.2.1
theorem ln130 (h : sw_lay G) : G.2.2.2.1 130 = 10 := (h.2 130 (by decide)).2.2.1
theorem ln131 (h : sw_lay G) : G.2.2.2.1 131 = 10 := (h.2 131 (by decide)).2.2.1
theorem ln133 (h : sw_lay G) : G.2.2.2.1 133 = 10 := (h.2 133 (by decide)).2.2.1
theorem ln134 (h : sw_lay G) : G.2.2.2.1 134 = 10 := (h.2 134 (by decide)).2.2.1
theorem ln135 (h : sw_lay G) : G.2.2.2.1 135 = 10 := (h.2 135 (by decide)).2.2.1
theorem ln137 (h : sw_lay G) : G.2.2.2.1 137 = 10 := (h.2 137 (by decide)).2.2.1
theorem ln138 (h : sw_lay G) : G.2.2.2.1 138 = 10 := (h.2 138 (by decide)).2.2.1
theorem ln139 (h : sw_lay G) : G.2.2.2.1 139 = 10 := (h.2 139 (by decide)).2.2.1
theorem ln141 (h : sw_lay G) : G.2.2.2.1 141 = 24 := (h.2 141 (by decide)).2.2.1
theorem ln142 (h : sw_lay G) : G.2.2.2.1 142 = 10 := (h.2 142 (by decide)).2.2.1
theorem ln143 (h : sw_lay G) : G.2.2.2.1 143 = 10 := (h.2 143 (by decide)).2.2.1
theorem ln144 (h : sw_lay G) : G.2.2.2.1 144 = 33 := (h.2 144 (by decide)).2.2.1
theorem ln145 (h : sw_lay G) : G.2.2.2.1 145 = 33 := (h.2 145 (by decide)).2.2.1
theorem ln146 (h : sw_lay G) : G.2.2.2.1 146 = 80 := (h.2 146 (by decide)).2.2.1
theorem ln147 (h : sw_lay G) : G.2.2.2.1 147 = 10 := (h.2 147 (by decide)).2.2.1
theorem ln148 (h : sw_lay G) : G.2.2.2.1 148 = 10 := (h.2 148 (by decide)).2.2.1
theorem ln149 (h : sw_lay G) : G.2.2.2.1 149 = 10 := (h.2 149 (by decide)).2.2.1
theorem ln150 (h : sw_lay G) : G.2.2.2.1 150 = 80 := (h.2 150 (by decide)).2.2.1
theorem ln151 (h : sw_lay G) : G.2.2.2.1 151 = 80 := (h.2 151 (by decide)).2.2.1
theorem ln152 (h : sw_lay G) : G.2.2.2.1 152 = 80 := (h.2 152 (by decide)).2.2.1
theorem ln153 (h : sw_lay G) : G.2.2.2.1 153 = 9 := (h.2 153 (by decide)).2.2.1
theorem ln154 (h : sw_lay G) : G.2.2.2.1 154 = 9 := (h.2 154 (by decide)).2.2.1
theorem ln155 (h : sw_lay G) : G.2.2.2.1 155 = 693 := (h.2 155 (by decide)).2.2.1
theorem ln156 (h : sw_lay G) : G.2.2.2.1 156 = 60 := (h.2 156 (by decide)).2.2.1
theorem ln157 (h : sw_lay G) : G.2.2.2.1 157 = 60 := (h.2 157 (by decide)).2.2.1
theorem ln158 (h : sw_lay G) : G.2.2.2.1 158 = 60 := (h.2 158 (by decide)).2.2.1
theorem ln159 (h : sw_lay G) : G.2.2.2.1 159 = 60 := (h.2 159 (by decide)).2.2.1
theorem ln160 (h : sw_lay G) : G.2.2.2.1 160 = 9 := (h.2 160 (by decide)).2.2.1
theorem ln161 (h : sw_lay G) : G.2.2.2.1 161 = 3000 := (h.2 161 (by decide)).2.2.1
theorem ln162 (h : sw_lay G) : G.2.2.2.1 162 = 3000 := (h.2 162 (by decide)).2.2.1
theorem ln163 (h : sw_lay G) : G.2.2.2.1 163 = 3000 := (h.2 163 (by decide)).2.2.1
theorem ln164 (h : sw_lay G) : G.2.2.2.1 164 = 3000 := (h.2 164 (by decide)).2.2.1
theorem ln165 (h : sw_lay G) : G.2.2.2.1 165 = 16384 := (h.2 165 (by decide)).2.2.1
theorem ln166 (h : sw_lay G) : G.2.2.2.1 166 = 3000 := (h.2 166 (by decide)).2.2.1
theorem ln167 (h : sw_lay G) : G.2.2.2.1 167 = 8 := (h.2 167 (by decide)).2.2.1
theorem ln168 (h : sw_lay G) : G.2.2.2.1 168 = 8 := (h.2 168 (by decide)).2.2.1
theorem ln169 (h : sw_lay G) : G.2.2.2.1 169 = 8 := (h.2 169 (by decide)).2.2.1
theorem ln170 (h : sw_lay G) : G.2.2.2.1 170 = 9 := (h.2 170 (by decide)).2.2.1
theorem ln171 (h : sw_lay G) : G.2.2.2.1 171 = 3 := (h.2 171 (by decide)).2.2.1
theorem ln172 (h : sw_lay G) : G.2.2.2.1 172 = 3 := (h.2 172 (by decide)).2.2.1
theorem ln173 (h : sw_lay G) : G.2.2.2.1 173 = 99 := (h.2 173 (by decide)).2.2.1
theorem lr0_0 (h : sw_lay G) : G.2.2.2.2 0 0 = some 1 := (h.2 0 (by decide)).2.2.2 0
theorem lr0_1 (h : sw_lay G) : G.2.2.2.2 0 1 = some 3 := (h.2 0 (by decide)).2.2.2 1
theorem lr0_2 (h : sw_lay G) : G.2.2.2.2 0 2 = some 13 := (h.2 0 (by decide)).2.2.2 2
theorem lr0_3 (h : sw_lay G) : G.2.2.2.2 0 3 = some 17 := (h.2 0 (by decide)).2.2.2 3
theorem lr0_4 (h : sw_lay G) : G.2.2.2.2 0 4 = some 21 := (h.2 0 (by decide)).2.2.2 4
theorem lr0_5 (h : sw_lay G) : G.2.2.2.2 0 5 = some 107 := (h.2 0 (by decide)).2.2.2 5
theorem lr0_6 (h : sw_lay G) : G.2.2.2.2 0 6 = some 108 := (h.2 0 (by decide)).2.2.2 6
theorem lr0_7 (h : sw_lay G) : G.2.2.2.2 0 7 = some 109 := (h.2 0 (by decide)).2.2.2 7
theorem lr0_8 (h : sw_lay G) : G.2.2.2.2 0 8 = some 117 := (h.2 0 (by decide)).2.2.2 8
theorem lr0_9 (h : sw_lay G) : G.2.2.2.2 0 9 = some 118 := (h.2 0 (by decide)).2.2.2 9
theorem lr0_11 (h : sw_lay G) : G.2.2.2.2 0 11 = some 119 := (h.2 0 (by decide)).2.2.2 11
theorem lr0_12 (h : sw_lay G) : G.2.2.2.2 0 12 = some 120 := (h.2 0 (by decide)).2.2.2 12
theorem lr1_0 (h : sw_lay G) : G.2.2.2.2 1 0 = some 2 := (h.2 1 (by decide)).2.2.2 0
theorem lr3_3 (h : sw_lay G) : G.2.2.2.2 3 3 = some 4 := (h.2 3 (by decide)).2.2.2 3
theorem lr3_4 (h : sw_lay G) : G.2.2.2.2 3 4 = some 5 := (h.2 3 (by decide)).2.2.2 4
theorem lr3_5 (h : sw_lay G) : G.2.2.2.2 3 5 = some 6 := (h.2 3 (by decide)).2.2.2 5
theorem lr3_6 (h : sw_lay G) : G.2.2.2.2 3 6 = some 10 := (h.2 3 (by decide)).2.2.2 6
theorem lr6_0 (h : sw_lay G) : G.2.2.2.2 6 0 = some 7 := (h.2 6 (by decide)).2.2.2 0
theorem lr6_1 (h : sw_lay G) : G.2.2.2.2 6 1 = some 8 := (h.2 6 (by decide)).2.2.2 1
theorem lr6_2 (h : sw_lay G) : G.2.2.2.2 6 2 = some 9 := (h.2 6 (by decide)).2.2.2 2
theorem lr10_0 (h : sw_lay G) : G.2.2.2.2 10 0 = some 11 := (h.2 10 (by decide)).2.2.2 0
theorem lr10_1 (h : sw_lay G) : G.2.2.2.2 10 1 = some 12 := (h.2 10 (by decide)).2.2.2 1
theorem lr13_0 (h : sw_lay G) : G.2.2.2.2 13 0 = some 14 := (h.2 13 (by decide)).2.2.2 0
theorem lr13_1 (h : sw_lay G) : G.2.2.2.2 13 1 = some 15 := (h.2 13 (by decide)).2.2.2 1
theorem lr13_2 (h : sw_lay G) : G.2.2.2.2 13 2 = some 16 := (h.2 13 (by decide)).2.2.2 2
theorem lr17_0 (h : sw_lay G) : G.2.2.2.2 17 0 = some 18 := (h.2 17 (by decide)).2.2.2 0
theorem lr17_1 (h : sw_lay G) : G.2.2.2.2 17 1 = some 19 := (h.2 17 (by decide)).2.2.2 1
theorem lr17_2 (h : sw_lay G) : G.2.2.2.2 17 2 = some 20 := (h.2 17 (by decide)).2.2.2 2
theorem lr21_0 (h : sw_lay G) : G.2.2.2.2 21 0 = some 22 := (h.2 21 (by decide)).2.2.2 0
theorem lr23_0 (h : sw_lay G) : G.2.2.2.2 23 0 = some 24 := (h.2 23 (by decide)).2.2.2 0
theorem lr23_1 (h : sw_lay G) : G.2.2.2.2 23 1 = some 25 := (h.2 23 (by decide)).2.2.2 1
theorem lr23_2 (h : sw_lay G) : G.2.2.2.2 23 2 = some 26 := (h.2 23 (by decide)).2.2.2 2
theorem lr27_0 (h : sw_lay G) : G.2.2.2.2 27 0 = some 28 := (h.2 27 (by decide)).2.2.2 0
theorem lr27_1 (h : sw_lay G) : G.2.2.2.2 27 1 = some 29 := (h.2 27 (by decide)).2.2.2 1
theorem lr27_2 (h : sw_lay G) : G.2.2.2.2 27 2 = some 30 := (h.2 27 (by decide)).2.2.2 2
theorem lr31_0 (h : sw_lay G) : G.2.2.2.2 31 0 = some 32 := (h.2 31 (by decide)).2.2.2 0
theorem lr31_1 (h : sw_lay G) : G.2.2.2.2 31 1 = some 33 := (h.2 31 (by decide)).2.2.2 1
theorem lr31_2 (h : sw_lay G) : G.2.2.2.2 31 2 = some 34 := (h.2 31 (by decide)).2.2.2 2
theorem lr35_0 (h : sw_lay G) : G.2.2.2.2 35 0 = some 36 := (h.2 35 (by decide)).2.2.2 0
theorem lr35_1 (h : sw_lay G) : G.2.2.2.2 35 1 = some 37 := (h.2 35 (by decide)).2.2.2 1
theorem lr35_2 (h : sw_lay G) : G.2.2.2.2 35 2 = some 38 := (h.2 35 (by decide)).2.2.2 2
theorem lr39_0 (h : sw_lay G) : G.2.2.2.2 39 0 = some 40 := (h.2 39 (by decide)).2.2.2 0
theorem lr39_1 (h : sw_lay G) : G.2.2.2.2 39 1 = some 41 := (h.2 39 (by decide)).2.2.2 1
theorem lr39_2 (h : sw_lay G) : G.2.2.2.2 39 2 = some 42 := (h.2 39 (by decide)).2.2.2 2
theorem lr43_0 (h : sw_lay G) : G.2.2.2.2 43 0 = some 44 := (h.2 43 (by decide)).2.2.2 0
theorem lr43_1 (h : sw_lay G) : G.2.2.2.2 43 1 = some 45 := (h.2 43 (by decide)).2.2.2 1
theorem lr43_2 (h : sw_lay G) : G.2.2.2.2 43 2 = some 46 := (h.2 43 (by decide)).2.2.2 2
theorem lr47_0 (h : sw_lay G) : G.2.2.2.2 47 0 = some 48 := (h.2 47 (by decide)).2.2.2 0
theorem lr47_1 (h : sw_lay G) : G.2.2.2.2 47 1 = some 49 := (h.2 47 (by decide)).2.2.2 1
theorem lr47_2 (h : sw_lay G) : G.2.2.2.2 47 2 = some 50 := (h.2 47 (by decide)).2.2.2 2
theorem lr51_0 (h : sw_lay G) : G.2.2.2.2 51 0 = some 52 := (h.2 51 (by decide)).2.2.2 0
theorem lr51_1 (h : sw_lay G) : G.2.2.2.2 51 1 = some 53 := (h.2 51 (by decide)).2.2.2 1
theorem lr51_2 (h : sw_lay G) : G.2.2.2.2 51 2 = some 54 := (h.2 51 (by decide)).2.2.2 2
theorem lr55_0 (h : sw_lay G) : G.2.2.2.2 55 0 = some 56 := (h.2 55 (by decide)).2.2.2 0
theorem lr55_1 (h : sw_lay G) : G.2.2.2.2 55 1 = some 57 := (h.2 55 (by decide)).2.2.2 1
theorem lr55_2 (h : sw_lay G) : G.2.2.2.2 55 2 = some 58 := (h.2 55 (by decide)).2.2.2 2
theorem lr59_0 (h : sw_lay G) : G.2.2.2.2 59 0 = some 60 := (h.2 59 (by decide)).2.2.2 0
theorem lr59_1 (h : sw_lay G) : G.2.2.2.2 59 1 = some 61 := (h.2 59 (by decide)).2.2.2 1
theorem lr59_2 (h : sw_lay G) : G.2.2.2.2 59 2 = some 62 := (h.2 59 (by decide)).2.2.2 2
theorem lr63_0 (h : sw_lay G) : G.2.2.2.2 63 0 = some 64 := (h.2 63 (by decide)).2.2.2 0
theorem lr63_1 (h : sw_lay G) : G.2.2.2.2 63 1 = some 65 := (h.2 63 (by decide)).2.2.2 1
theorem lr63_2 (h : sw_lay G) : G.2.2.2.2 63 2 = some 66 := (h.2 63 (by decide)).2.2.2 2
theorem lr67_0 (h : sw_lay G) : G.2.2.2.2 67 0 = some 68 := (h.2 67 (by decide)).2.2.2 0
theorem lr67_1 (h : sw_lay G) : G.2.2.2.2 67 1 = some 69 := (h.2 67 (by decide)).2.2.2 1
theorem lr67_2 (h : sw_lay G) : G.2.2.2.2 67 2 = some 70 := (h.2 67 (by decide)).2.2.2 2
theorem lr71_0 (h : sw_lay G) : G.2.2.2.2 71 0 = some 72 := (h.2 71 (by decide)).2.2.2 0
theorem lr71_1 (h : sw_lay G) : G.2.2.2.2 71 1 = some 73 := (h.2 71 (by decide)).2.2.2 1
theorem lr71_2 (h : sw_lay G) : G.2.2.2.2 71 2 = some 74 := (h.2 71 (by decide)).2.2.2 2
theorem lr75_0 (h : sw_lay G) : G.2.2.2.2 75 0 = some 76 := (h.2 75 (by decide)).2.2.2 0
theorem lr75_1 (h : sw_lay G) : G.2.2.2.2 75 1 = some 77 := (h.2 75 (by decide)).2.2.2 1
theorem lr75_2 (h : sw_lay G) : G.2.2.2.2 75 2 = some 78 := (h.2 75 (by decide)).2.2.2 2
theorem lr79_0 (h : sw_lay G) : G.2.2.2.2 79 0 = some 80 := (h.2 79 (by decide)).2.2.2 0
theorem lr79_1 (h : sw_lay G) : G.2.2.2.2 79 1 = some 81 := (h.2 79 (by decide)).2.2.2 1
theorem lr79_2 (h : sw_lay G) : G.2.2.2.2 79 2 = some 82 := (h.2 79 (by decide)).2.2.2 2
theorem lr83_0 (h : sw_lay G) : G.2.2.2.2 83 0 = some 84 := (h.2 83 (by decide)).2.2.2 0
theorem lr83_1 (h : sw_lay G) : G.2.2.2.2 83 1 = some 85 := (h.2 83 (by decide)).2.2.2 1
theorem lr83_2 (h : sw_lay G) : G.2.2.2.2 83 2 = some 86 := (h.2 83 (by decide)).2.2.2 2
theorem lr87_0 (h : sw_lay G) : G.2.2.2.2 87 0 = some 88 := (h.2 87 (by decide)).2.2.2 0
theorem lr87_1 (h : sw_lay G) : G.2.2.2.2 87 1 = some 89 := (h.2 87 (by decide)).2.2.2 1
theorem lr87_2 (h : sw_lay G) : G.2.2.2.2 87 2 = some 90 := (h.2 87 (by decide)).2.2.2 2
theorem lr91_0 (h : sw_lay G) : G.2.2.2.2 91 0 = some 92 := (h.2 91 (by decide)).2.2.2 0
theorem lr91_1 (h : sw_lay G) : G.2.2.2.2 91 1 = some 93 := (h.2 91 (by decide)).2.2.2 1
theorem lr91_2 (h : sw_lay G) : G.2.2.2.2 91 2 = some 94 := (h.2 91 (by decide)).2.2.2 2
theorem lr95_0 (h : sw_lay G) : G.2.2.2.2 95 0 = some 96 := (h.2 95 (by decide)).2.2.2 0
theorem lr95_1 (h : sw_lay G) : G.2.2.2.2 95 1 = some 97 := (h.2 95 (by decide)).2.2.2 1
theorem lr95_2 (h : sw_lay G) : G.2.2.2.2 95 2 = some 98 := (h.2 95 (by decide)).2.2.2 2
theorem lr99_0 (h : sw_lay G) : G.2.2.2.2 99 0 = some 100 := (h.2 99 (by decide)).2.2.2 0
theorem lr99_1 (h : sw_lay G) : G.2.2.2.2 99 1 = some 101 := (h.2 99 (by decide)).2.2.2 1
theorem lr99_2 (h : sw_lay G) : G.2.2.2.2 99 2 = some 102 := (h.2 99 (by decide)).2.2.2 2
theorem lr103_0 (h : sw_lay G) : G.2.2.2.2 103 0 = some 104 := (h.2 103 (by decide)).2.2.2 0
theorem lr103_1 (h : sw_lay G) : G.2.2.2.2 103 1 = some 105 := (h.2 103 (by decide)).2.2.2 1
theorem lr103_2 (h : sw_lay G) : G.2.2.2.2 103 2 = some 106 := (h.2 103 (by decide)).2.2.2 2
theorem lr109_0 (h : sw_lay G) : G.2.2.2.2 109 0 = some 110 := (h.2 109 (by decide)).2.2.2 0
theorem lr109_1 (h : sw_lay G) : G.2.2.2.2 109 1 = some 111 := (h.2 109 (by decide)).2.2.2 1
theorem lr109_2 (h : sw_lay G) : G.2.2.2.2 109 2 = some 112 := (h.2 109 (by decide)).2.2.2 2
theorem lr109_3 (h : sw_lay G) : G.2.2.2.2 109 3 = some 113 := (h.2 109 (by decide)).2.2.2 3
theorem lr113_0 (h : sw_lay G) : G.2.2.2.2 113 0 = some 114 := (h.2 113 (by decide)).2.2.2 0
theorem lr113_1 (h : sw_lay G) : G.2.2.2.2 113 1 = some 115 := (h.2 113 (by decide)).2.2.2 1
theorem lr113_2 (h : sw_lay G) : G.2.2.2.2 113 2 = some 116 := (h.2 113 (by decide)).2.2.2 2
theorem lr120_0 (h : sw_lay G) : G.2.2.2.2 120 0 = some 121 := (h.2 120 (by decide)).2.2.2 0
theorem lr120_1 (h : sw_lay G) : G.2.2.2.2 120 1 = some 125 := (h.2 120 (by decide)).2.2.2 1
theorem lr120_2 (h : sw_lay G) : G.2.2.2.2 120 2 = some 126 := (h.2 120 (by decide)).2.2.2 2
theorem lr120_3 (h : sw_lay G) : G.2.2.2.2 120 3 = some 127 := (h.2 120 (by decide)).2.2.2 3
theorem lr121_0 (h : sw_lay G) : G.2.2.2.2 121 0 = some 122 := (h.2 121 (by decide)).2.2.2 0
theorem lr121_1 (h : sw_lay G) : G.2.2.2.2 121 1 = some 123 := (h.2 121 (by decide)).2.2.2 1
theorem lr121_2 (h : sw_lay G) : G.2.2.2.2 121 2 = some 124 := (h.2 121 (by decide)).2.2.2 2
theorem lr128_0 (h : sw_lay G) : G.2.2.2.2 128 0 = some 129 := (h.2 128 (by decide)).2.2.2 0
theorem lr128_1 (h : sw_lay G) : G.2.2.2.2 128 1 = some 130 := (h.2 128 (by decide)).2.2.2 1
theorem lr128_2 (h : sw_lay G) : G.2.2.2.2 128 2 = some 131 := (h.2 128 (by decide)).2.2.2 2
theorem lr132_0 (h : sw_lay G) : G.2.2.2.2 132 0 = some 133 := (h.2 132 (by decide)).2.2.2 0
theorem lr132_1 (h : sw_lay G) : G.2.2.2.2 132 1 = some 134 := (h.2 132 (by decide)).2.2.2 1
theorem lr132_2 (h : sw_lay G) : G.2.2.2.2 132 2 = some 135 := (h.2 132 (by decide)).2.2.2 2
theorem lr136_0 (h : sw_lay G) : G.2.2.2.2 136 0 = some 137 := (h.2 136 (by decide)).2.2.2 0
theorem lr136_1 (h : sw_lay G) : G.2.2.2.2 136 1 = some 138 := (h.2 136 (by decide)).2.2.2 1
theorem lr136_2 (h : sw_lay G) : G.2.2.2.2 136 2 = some 139 := (h.2 136 (by decide)).2.2.2 2
theorem lr140_2 (h : sw_lay G) : G.2.2.2.2 140 2 = some 141 := (h.2 140 (by decide)).2.2.2 2
theorem lr140_7 (h : sw_lay G) : G.2.2.2.2 140 7 = some 142 := (h.2 140 (by decide)).2.2.2 7
theorem lr140_8 (h : sw_lay G) : G.2.2.2.2 140 8 = some 143 := (h.2 140 (by decide)).2.2.2 8
theorem lr140_9 (h : sw_lay G) : G.2.2.2.2 140 9 = some 144 := (h.2 140 (by decide)).2.2.2 9
theorem lr140_10 (h : sw_lay G) : G.2.2.2.2 140 10 = some 145 := (h.2 140 (by decide)).2.2.2 10
theorem lr140_11 (h : sw_lay G) : G.2.2.2.2 140 11 = some 146 := (h.2 140 (by decide)).2.2.2 11
theorem lr140_16 (h : sw_lay G) : G.2.2.2.2 140 16 = some 147 := (h.2 140 (by decide)).2.2.2 16
theorem lr140_17 (h : sw_lay G) : G.2.2.2.2 140 17 = some 148 := (h.2 140 (by decide)).2.2.2 17
theorem lr140_18 (h : sw_lay G) : G.2.2.2.2 140 18 = some 149 := (h.2 140 (by decide)).2.2.2 18
theorem lr140_21 (h : sw_lay G) : G.2.2.2.2 140 21 = some 150 := (h.2 140 (by decide)).2.2.2 21
theorem lr140_22 (h : sw_lay G) : G.2.2.2.2 140 22 = some 151 := (h.2 140 (by decide)).2.2.2 22
theorem lr140_25 (h : sw_lay G) : G.2.2.2.2 140 25 = some 152 := (h.2 140 (by decide)).2.2.2 25
theorem lr140_26 (h : sw_lay G) : G.2.2.2.2 140 26 = some 153 := (h.2 140 (by decide)).2.2.2 26
theorem lr140_27 (h : sw_lay G) : G.2.2.2.2 140 27 = some 154 := (h.2 140 (by decide)).2.2.2 27
theorem lr140_33 (h : sw_lay G) : G.2.2.2.2 140 33 = some 155 := (h.2 140 (by decide)).2.2.2 33
theorem lr140_34 (h : sw_lay G) : G.2.2.2.2 140 34 = some 156 := (h.2 140 (by decide)).2.2.2 34
theorem lr140_35 (h : sw_lay G) : G.2.2.2.2 140 35 = some 157 := (h.2 140 (by decide)).2.2.2 35
theorem lr140_36 (h : sw_lay G) : G.2.2.2.2 140 36 = some 158 := (h.2 140 (by decide)).2.2.2 36
theorem lr140_37 (h : sw_lay G) : G.2.2.2.2 140 37 = some 159 := (h.2 140 (by decide)).2.2.2 37
theorem lr140_41 (h : sw_lay G) : G.2.2.2.2 140 41 = some 160 := (h.2 140 (by decide)).2.2.2 41
theorem lr140_43 (h : sw_lay G) : G.2.2.2.2 140 43 = some 161 := (h.2 140 (by decide)).2.2.2 43
theorem lr140_44 (h : sw_lay G) : G.2.2.2.2 140 44 = some 162 := (h.2 140 (by decide)).2.2.2 44
theorem lr140_45 (h : sw_lay G) : G.2.2.2.2 140 45 = some 163 := (h.2 140 (by decide)).2.2.2 45
theorem lr140_46 (h : sw_lay G) : G.2.2.2.2 140 46 = some 164 := (h.2 140 (by decide)).2.2.2 46
theorem lr140_47 (h : sw_lay G) : G.2.2.2.2 140 47 = some 165 := (h.2 140 (by decide)).2.2.2 47
theorem lr140_53 (h : sw_lay G) : G.2.2.2.2 140 53 = some 166 := (h.2 140 (by decide)).2.2.2 53
theorem lr140_55 (h : sw_lay G) : G.2.2.2.2 140 55 = some 167 := (h.2 140 (by decide)).2.2.2 55
theorem lr140_56 (h : sw_lay G) : G.2.2.2.2 140 56 = some 168 := (h.2 140 (by decide)).2.2.2 56
theorem lr140_57 (h : sw_lay G) : G.2.2.2.2 140 57 = some 169 := (h.2 140 (by decide)).2.2.2 57
theorem lr140_58 (h : sw_lay G) : G.2.2.2.2 140 58 = some 170 := (h.2 140 (by decide)).2.2.2 58
theorem lr140_59 (h : sw_lay G) : G.2.2.2.2 140 59 = some 171 := (h.2 140 (by decide)).2.2.2 59
theorem lr140_60 (h : sw_lay G) : G.2.2.2.2 140 60 = some 172 := (h.2 140 (by decide)).2.2.2 60
theorem lr140_61 (h : sw_lay G) : G.2.2.2.2 140 61 = some 173 := (h.2 140 (by decide)).2.2.2 61
theorem lm13 (h : sw_lay G) : sw_mom G 13 := ⟨lk13 h, ⟨lr13_0 h, lr13_1 h, lr13_2 h⟩, lk14 h, lk15 h, lk16 h, ln14 h, ln15 h, ln16 h⟩
theorem lm17 (h : sw_lay G) : sw_mom G 17 := ⟨lk17 h, ⟨lr17_0 h, lr17_1 h, lr17_2 h⟩, lk18 h, lk19 h, lk20 h, ln18 h, ln19 h, ln20 h⟩
theorem lm23 (h : sw_lay G) : sw_mom G 23 := ⟨lk23 h, ⟨lr23_0 h, lr23_1 h, lr23_2 h⟩, lk24 h, lk25 h, lk26 h, ln24 h, ln25 h, ln26 h⟩
theorem lm27 (h : sw_lay G) : sw_mom G 27 := ⟨lk27 h, ⟨lr27_0 h, lr27_1 h, lr27_2 h⟩, lk28 h, lk29 h, lk30 h, ln28 h, ln29 h, ln30 h⟩
theorem lm31 (h : sw_lay G) : sw_mom G 31 := ⟨lk31 h, ⟨lr31_0 h, lr31_1 h, lr31_2 h⟩, lk32 h, lk33 h, lk34 h, ln32 h, ln33 h, ln34 h⟩
theorem lm35 (h : sw_lay G) : sw_mom G 35 := ⟨lk35 h, ⟨lr35_0 h, lr35_1 h, lr35_2 h⟩, lk36 h, lk37 h, lk38 h, ln36 h, ln37 h, ln38 h⟩
theorem lm39 (h : sw_lay G) : sw_mom G 39 := ⟨lk39 h, ⟨lr39_0 h, lr39_1 h, lr39_2 h⟩, lk40 h, lk41 h, lk42 h, ln40 h, ln41 h, ln42 h⟩
theorem lm43 (h : sw_lay G) : sw_mom G 43 := ⟨lk43 h, ⟨lr43_0 h, lr43_1 h, lr43_2 h⟩, lk44 h, lk45 h, lk46 h, ln44 h, ln45 h, ln46 h⟩
theorem lm47 (h : sw_lay G) : sw_mom G 47 := ⟨lk47 h, ⟨lr47_0 h, lr47_1 h, lr47_2 h⟩, lk48 h, lk49 h, lk50 h, ln48 h, ln49 h, ln50 h⟩
theorem lm51 (h : sw_lay G) : sw_mom G 51 := ⟨lk51 h, ⟨lr51_0 h, lr51_1 h, lr51_2 h⟩, lk52 h, lk53 h, lk54 h, ln52 h, ln53 h, ln54 h⟩
theorem lm55 (h : sw_lay G) : sw_mom G 55 := ⟨lk55 h, ⟨lr55_0 h, lr55_1 h, lr55_2 h⟩, lk56 h, lk57 h, lk58 h, ln56 h, ln57 h, ln58 h⟩
theorem lm59 (h : sw_lay G) : sw_mom G 59 := ⟨lk59 h, ⟨lr59_0 h, lr59_1 h, lr59_2 h⟩, lk60 h, lk61 h, lk62 h, ln60 h, ln61 h, ln62 h⟩
theorem lm63 (h : sw_lay G) : sw_mom G 63 := ⟨lk63 h, ⟨lr63_0 h, lr63_1 h, lr63_2 h⟩, lk64 h, lk65 h, lk66 h, ln64 h, ln65 h, ln66 h⟩
theorem lm67 (h : sw_lay G) : sw_mom G 67 := ⟨lk67 h, ⟨lr67_0 h, lr67_1 h, lr67_2 h⟩, lk68 h, lk69 h, lk70 h, ln68 h, ln69 h, ln70 h⟩
theorem lm71 (h : sw_lay G) : sw_mom G 71 := ⟨lk71 h, ⟨lr71_0 h, lr71_1 h, lr71_2 h⟩, lk72 h, lk73 h, lk74 h, ln72 h, ln73 h, ln74 h⟩
theorem lm75 (h : sw_lay G) : sw_mom G 75 := ⟨lk75 h, ⟨lr75_0 h, lr75_1 h, lr75_2 h⟩, lk76 h, lk77 h, lk78 h, ln76 h, ln77 h, ln78 h⟩
theorem lm79 (h : sw_lay G) : sw_mom G 79 := ⟨lk79 h, ⟨lr79_0 h, lr79_1 h, lr79_2 h⟩, lk80 h, lk81 h, lk82 h, ln80 h, ln81 h, ln82 h⟩
theorem lm83 (h : sw_lay G) : sw_mom G 83 := ⟨lk83 h, ⟨lr83_0 h, lr83_1 h, lr83_2 h⟩, lk84 h, lk85 h, lk86 h, ln84 h, ln85 h, ln86 h⟩
theorem lm87 (h : sw_lay G) : sw_mom G 87 := ⟨lk87 h, ⟨lr87_0 h, lr87_1 h, lr87_2 h⟩, lk88 h, lk89 h, lk90 h, ln88 h, ln89 h, ln90 h⟩
theorem lm91 (h : sw_lay G) : sw_mom G 91 := ⟨lk91 h, ⟨lr91_0 h, lr91_1 h, lr91_2 h⟩, lk92 h, lk93 h, lk94 h, ln92 h, ln93 h, ln94 h⟩
theorem lm95 (h : sw_lay G) : sw_mom G 95 := ⟨lk95 h, ⟨lr95_0 h, lr95_1 h, lr95_2 h⟩, lk96 h, lk97 h, lk98 h, ln96 h, ln97 h, ln98 h⟩
theorem lm99 (h : sw_lay G) : sw_mom G 99 := ⟨lk99 h, ⟨lr99_0 h, lr99_1 h, lr99_2 h⟩, lk100 h, lk101 h, lk102 h, ln100 h, ln101 h, ln102 h⟩
theorem lm103 (h : sw_lay G) : sw_mom G 103 := ⟨lk103 h, ⟨lr103_0 h, lr103_1 h, lr103_2 h⟩, lk104 h, lk105 h, lk106 h, ln104 h, ln105 h, ln106 h⟩
theorem lm113 (h : sw_lay G) : sw_mom G 113 := ⟨lk113 h, ⟨lr113_0 h, lr113_1 h, lr113_2 h⟩, lk114 h, lk115 h, lk116 h, ln114 h, ln115 h, ln116 h⟩
theorem lm121 (h : sw_lay G) : sw_mom G 121 := ⟨lk121 h, ⟨lr121_0 h, lr121_1 h, lr121_2 h⟩, lk122 h, lk123 h, lk124 h, ln122 h, ln123 h, ln124 h⟩
theorem lm128 (h : sw_lay G) : sw_mom G 128 := ⟨lk128 h, ⟨lr128_0 h, lr128_1 h, lr128_2 h⟩, lk129 h, lk130 h, lk131 h, ln129 h, ln130 h, ln131 h⟩
theorem lm132 (h : sw_lay G) : sw_mom G 132 := ⟨lk132 h, ⟨lr132_0 h, lr132_1 h, lr132_2 h⟩, lk133 h, lk134 h, lk135 h, ln133 h, ln134 h, ln135 h⟩
theorem lm136 (h : sw_lay G) : sw_mom G 136 := ⟨lk136 h, ⟨lr136_0 h, lr136_1 h, lr136_2 h⟩, lk137 h, lk138 h, lk139 h, ln137 h, ln138 h, ln139 h⟩
theorem la22_m (h : sw_lay G) {i : Int32} (hi : vp_in i 21) : sw_mom G (23 + 4 * i.toNatClampNeg) := by
  have h1 : i.toNatClampNeg < 21 := Nat.not_le.mp fun q => hi (Or.inr q)
  generalize i.toNatClampNeg = k at h1
  match k, h1 with
  | 0, _ => exact lm23 h
  | 1, _ => exact lm27 h
  | 2, _ => exact lm31 h
  | 3, _ => exact lm35 h
  | 4, _ => exact lm39 h
  | 5, _ => exact lm43 h
  | 6, _ => exact lm47 h
  | 7, _ => exact lm51 h
  | 8, _ => exact lm55 h
  | 9, _ => exact lm59 h
  | 10, _ => exact lm63 h
  | 11, _ => exact lm67 h
  | 12, _ => exact lm71 h
  | 13, _ => exact lm75 h
  | 14, _ => exact lm79 h
  | 15, _ => exact lm83 h
  | 16, _ => exact lm87 h
  | 17, _ => exact lm91 h
  | 18, _ => exact lm95 h
  | 19, _ => exact lm99 h
  | 20, _ => exact lm103 h
  | k + 21, hh => exact absurd hh (by omega)
theorem la22_r (h : sw_lay G) {i : Int32} (hi : vp_in i 21) : G.2.2.2.2 22 i.toNatClampNeg = some (23 + 4 * i.toNatClampNeg) := by
  have h1 : i.toNatClampNeg < 21 := Nat.not_le.mp fun q => hi (Or.inr q)
  rw [(h.2 22 (by decide)).2.2.2]
  generalize i.toNatClampNeg = k at h1
  match k, h1 with
  | 0, _ => rfl
  | 1, _ => rfl
  | 2, _ => rfl
  | 3, _ => rfl
  | 4, _ => rfl
  | 5, _ => rfl
  | 6, _ => rfl
  | 7, _ => rfl
  | 8, _ => rfl
  | 9, _ => rfl
  | 10, _ => rfl
  | 11, _ => rfl
  | 12, _ => rfl
  | 13, _ => rfl
  | 14, _ => rfl
  | 15, _ => rfl
  | 16, _ => rfl
  | 17, _ => rfl
  | 18, _ => rfl
  | 19, _ => rfl
  | 20, _ => rfl
  | k + 21, hh => exact absurd hh (by omega)
theorem la107_m (h : sw_lay G) {i : Int32} (hi : vp_in i 3) : sw_mom G (128 + 4 * i.toNatClampNeg) := by
  have h1 : i.toNatClampNeg < 3 := Nat.not_le.mp fun q => hi (Or.inr q)
  generalize i.toNatClampNeg = k at h1
  match k, h1 with
  | 0, _ => exact lm128 h
  | 1, _ => exact lm132 h
  | 2, _ => exact lm136 h
  | k + 3, hh => exact absurd hh (by omega)
theorem la107_r (h : sw_lay G) {i : Int32} (hi : vp_in i 3) : G.2.2.2.2 107 i.toNatClampNeg = some (128 + 4 * i.toNatClampNeg) := by
  have h1 : i.toNatClampNeg < 3 := Nat.not_le.mp fun q => hi (Or.inr q)
  rw [(h.2 107 (by decide)).2.2.2]
  generalize i.toNatClampNeg = k at h1
  match k, h1 with
  | 0, _ => rfl
  | 1, _ => rfl
  | 2, _ => rfl
  | k + 3, hh => exact absurd hh (by omega)
end LAY
section FLD
variable {l : Launch} {D : va_G} {cy : Nat → ClassId} {sz : Nat} {own : String} {cc : ByteArray} {nL : Nat} {ret : Option FieldType} {ini : Bool} {R : Room} {mc ms cells slots : Nat} {Q : Option Value → sw_G → sw_I → sw_J → Prop} {G : sw_G} {I : sw_I} {J : sw_J} {pc : Nat} {lv : List (Nat × Value)} {st : List Value} {a idx : Nat}
theorem gf_X0_0 (hlink : Cond.fieldLink own idx RX0 "acts" "I" ∈ sw_T) (ha : a ∈ G.2.1 ∧ G.2.2.1 a = 0) (d : decode cc pc = .ok (.getfield idx, 3)) (kk : AW l D cy sz own cc nL ret ini R mc ms Q cells slots G  I J (pc + 3) lv (.int (I a 0) :: st)) : AW l D cy sz own cc nL ret ini R mc ms Q cells slots G  I J pc lv (.ref (sz + a) :: st) := aw_get (ci := 0) (k := 0) (C := RX0) (T := TX0) (N := 3) rfl inT0 (by decide) rfl (by decide) rfl rfl hlink ha d kk
theorem gf_X0_1 (hlink : Cond.fieldLink own idx RX0 "rides" "I" ∈ sw_T) (ha : a ∈ G.2.1 ∧ G.2.2.1 a = 0) (d : decode cc pc = .ok (.getfield idx, 3)) (kk : AW l D cy sz own cc nL ret ini R mc ms Q cells slots G  I J (pc + 3) lv (.int (I a 1) :: st)) : AW l D cy sz own cc nL ret ini R mc ms Q cells slots G  I J pc lv (.ref (sz + a) :: st) := aw_get (ci := 0) (k := 1) (C := RX0) (T := TX0) (N := 3) rfl inT0 (by decide) rfl (by decide) rfl rfl hlink ha d kk
theorem gf_X0_2 (hlink : Cond.fieldLink own idx RX0 "deeds" "I" ∈ sw_T) (ha : a ∈ G.2.1 ∧ G.2.2.1 a = 0) (d : decode cc pc = .ok (.getfield idx, 3)) (kk : AW l D cy sz own cc nL ret ini R mc ms Q cells slots G  I J (pc + 3) lv (.int (I a 2) :: st)) : AW l D cy sz own cc nL ret ini R mc ms Q cells slots G  I J pc lv (.ref (sz + a) :: st) := aw_get (ci := 0) (k := 2) (C := RX0) (T := TX0) (N := 3) rfl inT0 (by decide) rfl (by decide) rfl rfl hlink ha d kk
theorem gf_X1_0 (hlink : Cond.fieldLink own idx RX1 "floors" "I" ∈ sw_T) (ha : a ∈ G.2.1 ∧ G.2.2.1 a = 1) (d : decode cc pc = .ok (.getfield idx, 3)) (kk : AW l D cy sz own cc nL ret ini R mc ms Q cells slots G  I J (pc + 3) lv (.int (I a 0) :: st)) : AW l D cy sz own cc nL ret ini R mc ms Q cells slots G  I J pc lv (.ref (sz + a) :: st) := aw_get (ci := 1) (k := 0) (C := RX1) (T := TX1) (N := 7) rfl inT1 (by decide) rfl (by decide) rfl rfl hlink ha d kk
theorem gf_X1_1 (hlink : Cond.fieldLink own idx RX1 "dogFloor" "I" ∈ sw_T) (ha : a ∈ G.2.1 ∧ G.2.2.1 a = 1) (d : decode cc pc = .ok (.getfield idx, 3)) (kk : AW l D cy sz own cc nL ret ini R mc ms Q cells slots G  I J (pc + 3) lv (.int (I a 1) :: st)) : AW l D cy sz own cc nL ret ini R mc ms Q cells slots G  I J pc lv (.ref (sz + a) :: st) := aw_get (ci := 1) (k := 1) (C := RX1) (T := TX1) (N := 7) rfl inT1 (by decide) rfl (by decide) rfl rfl hlink ha d kk
theorem gf_X1_2 (hlink : Cond.fieldLink own idx RX1 "riders" "I" ∈ sw_T) (ha : a ∈ G.2.1 ∧ G.2.2.1 a = 1) (d : decode cc pc = .ok (.getfield idx, 3)) (kk : AW l D cy sz own cc nL ret ini R mc ms Q cells slots G  I J (pc + 3) lv (.int (I a 2) :: st)) : AW l D cy sz own cc nL ret ini R mc ms Q cells slots G  I J pc lv (.ref (sz + a) :: st) := aw_get (ci := 1) (k := 2) (C := RX1) (T := TX1) (N := 7) rfl inT1 (by decide) rfl (by decide) rfl rfl hlink ha d kk
theorem gf_X1_3 {b : Nat} (hlink : Cond.fieldLink own idx RX1 "home" "[I" ∈ sw_T) (ha : a ∈ G.2.1 ∧ G.2.2.1 a = 1) (hr : G.2.2.2.2 a 3 = some b) (d : decode cc pc = .ok (.getfield idx, 3)) (kk : AW l D cy sz own cc nL ret ini R mc ms Q cells slots G  I J (pc + 3) lv (.ref (sz + b) :: st)) : AW l D cy sz own cc nL ret ini R mc ms Q cells slots G  I J pc lv (.ref (sz + a) :: st) := aw_get (ci := 1) (k := 3) (C := RX1) (T := TX1) (N := 7) rfl inT1 (by decide) rfl (by decide) rfl (by rw [hr]; rfl) hlink ha d kk
theorem gf_X1_4 {b : Nat} (hlink : Cond.fieldLink own idx RX1 "truth" "[I" ∈ sw_T) (ha : a ∈ G.2.1 ∧ G.2.2.1 a = 1) (hr : G.2.2.2.2 a 4 = some b) (d : decode cc pc = .ok (.getfield idx, 3)) (kk : AW l D cy sz own cc nL ret ini R mc ms Q cells slots G  I J (pc + 3) lv (.ref (sz + b) :: st)) : AW l D cy sz own cc nL ret ini R mc ms Q cells slots G  I J pc lv (.ref (sz + a) :: st) := aw_get (ci := 1) (k := 4) (C := RX1) (T := TX1) (N := 7) rfl inT1 (by decide) rfl (by decide) rfl (by rw [hr]; rfl) hlink ha d kk
theorem gf_X1_5 {b : Nat} (hlink : Cond.fieldLink own idx RX1 "rule" "LLeastWished$Law;" ∈ sw_T) (ha : a ∈ G.2.1 ∧ G.2.2.1 a = 1) (hr : G.2.2.2.2 a 5 = some b) (d : decode cc pc = .ok (.getfield idx, 3)) (kk : AW l D cy sz own cc nL ret ini R mc ms Q cells slots G  I J (pc + 3) lv (.ref (sz + b) :: st)) : AW l D cy sz own cc nL ret ini R mc ms Q cells slots G  I J pc lv (.ref (sz + a) :: st) := aw_get (ci := 1) (k := 5) (C := RX1) (T := TX1) (N := 7) rfl inT1 (by decide) rfl (by decide) rfl (by rw [hr]; rfl) hlink ha d kk
theorem gf_X1_6 {b : Nat} (hlink : Cond.fieldLink own idx RX1 "scene" "LLeastWished$Scene;" ∈ sw_T) (ha : a ∈ G.2.1 ∧ G.2.2.1 a = 1) (hr : G.2.2.2.2 a 6 = some b) (d : decode cc pc = .ok (.getfield idx, 3)) (kk : AW l D cy sz own cc nL ret ini R mc ms Q cells slots G  I J (pc + 3) lv (.ref (sz + b) :: st)) : AW l D cy sz own cc nL ret ini R mc ms Q cells slots G  I J pc lv (.ref (sz + a) :: st) := aw_get (ci := 1) (k := 6) (C := RX1) (T := TX1) (N := 7) rfl inT1 (by decide) rfl (by decide) rfl (by rw [hr]; rfl) hlink ha d kk
theorem gf_X10_0 (hlink : Cond.fieldLink own idx RX10 "thrown" "I" ∈ sw_T) (ha : a ∈ G.2.1 ∧ G.2.2.1 a = 10) (d : decode cc pc = .ok (.getfield idx, 3)) (kk : AW l D cy sz own cc nL ret ini R mc ms Q cells slots G  I J (pc + 3) lv (.int (I a 0) :: st)) : AW l D cy sz own cc nL ret ini R mc ms Q cells slots G  I J pc lv (.ref (sz + a) :: st) := aw_get (ci := 10) (k := 0) (C := RX10) (T := TX10) (N := 62) rfl inT10 (by decide) rfl (by decide) rfl rfl hlink ha d kk
theorem gf_X10_1 (hlink : Cond.fieldLink own idx RX10 "rows" "I" ∈ sw_T) (ha : a ∈ G.2.1 ∧ G.2.2.1 a = 10) (d : decode cc pc = .ok (.getfield idx, 3)) (kk : AW l D cy sz own cc nL ret ini R mc ms Q cells slots G  I J (pc + 3) lv (.int (I a 1) :: st)) : AW l D cy sz own cc nL ret ini R mc ms Q cells slots G  I J pc lv (.ref (sz + a) :: st) := aw_get (ci := 10) (k := 1) (C := RX10) (T := TX10) (N := 62) rfl inT10 (by decide) rfl (by decide) rfl rfl hlink ha d kk
theorem gf_X10_2 {b : Nat} (hlink : Cond.fieldLink own idx RX10 "row" "[J" ∈ sw_T) (ha : a ∈ G.2.1 ∧ G.2.2.1 a = 10) (hr : G.2.2.2.2 a 2 = some b) (d : decode cc pc = .ok (.getfield idx, 3)) (kk : AW l D cy sz own cc nL ret ini R mc ms Q cells slots G  I J (pc + 3) lv (.ref (sz + b) :: st)) : AW l D cy sz own cc nL ret ini R mc ms Q cells slots G  I J pc lv (.ref (sz + a) :: st) := aw_get (ci := 10) (k := 2) (C := RX10) (T := TX10) (N := 62) rfl inT10 (by decide) rfl (by decide) rfl (by rw [hr]; rfl) hlink ha d kk
theorem gf_X10_3 (hlink : Cond.fieldLink own idx RX10 "floors" "I" ∈ sw_T) (ha : a ∈ G.2.1 ∧ G.2.2.1 a = 10) (d : decode cc pc = .ok (.getfield idx, 3)) (kk : AW l D cy sz own cc nL ret ini R mc ms Q cells slots G  I J (pc + 3) lv (.int (I a 3) :: st)) : AW l D cy sz own cc nL ret ini R mc ms Q cells slots G  I J pc lv (.ref (sz + a) :: st) := aw_get (ci := 10) (k := 3) (C := RX10) (T := TX10) (N := 62) rfl inT10 (by decide) rfl (by decide) rfl rfl hlink ha d kk
theorem gf_X10_4 (hlink : Cond.fieldLink own idx RX10 "riders" "I" ∈ sw_T) (ha : a ∈ G.2.1 ∧ G.2.2.1 a = 10) (d : decode cc pc = .ok (.getfield idx, 3)) (kk : AW l D cy sz own cc nL ret ini R mc ms Q cells slots G  I J (pc + 3) lv (.int (I a 4) :: st)) : AW l D cy sz own cc nL ret ini R mc ms Q cells slots G  I J pc lv (.ref (sz + a) :: st) := aw_get (ci := 10) (k := 4) (C := RX10) (T := TX10) (N := 62) rfl inT10 (by decide) rfl (by decide) rfl rfl hlink ha d kk
theorem gf_X10_5 (hlink : Cond.fieldLink own idx RX10 "dog" "I" ∈ sw_T) (ha : a ∈ G.2.1 ∧ G.2.2.1 a = 10) (d : decode cc pc = .ok (.getfield idx, 3)) (kk : AW l D cy sz own cc nL ret ini R mc ms Q cells slots G  I J (pc + 3) lv (.int (I a 5) :: st)) : AW l D cy sz own cc nL ret ini R mc ms Q cells slots G  I J pc lv (.ref (sz + a) :: st) := aw_get (ci := 10) (k := 5) (C := RX10) (T := TX10) (N := 62) rfl inT10 (by decide) rfl (by decide) rfl rfl hlink ha d kk
theorem gf_X10_6 (hlink : Cond.fieldLink own idx RX10 "changes" "I" ∈ sw_T) (ha : a ∈ G.2.1 ∧ G.2.2.1 a = 10) (d : decode cc pc = .ok (.getfield idx, 3)) (kk : AW l D cy sz own cc nL ret ini R mc ms Q cells slots G  I J (pc + 3) lv (.int (I a 6) :: st)) : AW l D cy sz own cc nL ret ini R mc ms Q cells slots G  I J pc lv (.ref (sz + a) :: st) := aw_get (ci := 10) (k := 6) (C := RX10) (T := TX10) (N := 62) rfl inT10 (by decide) rfl (by decide) rfl rfl hlink ha d kk
theorem gf_X10_7 {b : Nat} (hlink : Cond.fieldLink own idx RX10 "home" "[I" ∈ sw_T) (ha : a ∈ G.2.1 ∧ G.2.2.1 a = 10) (hr : G.2.2.2.2 a 7 = some b) (d : decode cc pc = .ok (.getfield idx, 3)) (kk : AW l D cy sz own cc nL ret ini R mc ms Q cells slots G  I J (pc + 3) lv (.ref (sz + b) :: st)) : AW l D cy sz own cc nL ret ini R mc ms Q cells slots G  I J pc lv (.ref (sz + a) :: st) := aw_get (ci := 10) (k := 7) (C := RX10) (T := TX10) (N := 62) rfl inT10 (by decide) rfl (by decide) rfl (by rw [hr]; rfl) hlink ha d kk
theorem gf_X10_8 {b : Nat} (hlink : Cond.fieldLink own idx RX10 "truth" "[I" ∈ sw_T) (ha : a ∈ G.2.1 ∧ G.2.2.1 a = 10) (hr : G.2.2.2.2 a 8 = some b) (d : decode cc pc = .ok (.getfield idx, 3)) (kk : AW l D cy sz own cc nL ret ini R mc ms Q cells slots G  I J (pc + 3) lv (.ref (sz + b) :: st)) : AW l D cy sz own cc nL ret ini R mc ms Q cells slots G  I J pc lv (.ref (sz + a) :: st) := aw_get (ci := 10) (k := 8) (C := RX10) (T := TX10) (N := 62) rfl inT10 (by decide) rfl (by decide) rfl (by rw [hr]; rfl) hlink ha d kk
theorem gf_X10_9 {b : Nat} (hlink : Cond.fieldLink own idx RX10 "now" "[I" ∈ sw_T) (ha : a ∈ G.2.1 ∧ G.2.2.1 a = 10) (hr : G.2.2.2.2 a 9 = some b) (d : decode cc pc = .ok (.getfield idx, 3)) (kk : AW l D cy sz own cc nL ret ini R mc ms Q cells slots G  I J (pc + 3) lv (.ref (sz + b) :: st)) : AW l D cy sz own cc nL ret ini R mc ms Q cells slots G  I J pc lv (.ref (sz + a) :: st) := aw_get (ci := 10) (k := 9) (C := RX10) (T := TX10) (N := 62) rfl inT10 (by decide) rfl (by decide) rfl (by rw [hr]; rfl) hlink ha d kk
theorem gf_X10_10 {b : Nat} (hlink : Cond.fieldLink own idx RX10 "next" "[I" ∈ sw_T) (ha : a ∈ G.2.1 ∧ G.2.2.1 a = 10) (hr : G.2.2.2.2 a 10 = some b) (d : decode cc pc = .ok (.getfield idx, 3)) (kk : AW l D cy sz own cc nL ret ini R mc ms Q cells slots G  I J (pc + 3) lv (.ref (sz + b) :: st)) : AW l D cy sz own cc nL ret ini R mc ms Q cells slots G  I J pc lv (.ref (sz + a) :: st) := aw_get (ci := 10) (k := 10) (C := RX10) (T := TX10) (N := 62) rfl inT10 (by decide) rfl (by decide) rfl (by rw [hr]; rfl) hlink ha d kk
theorem gf_X10_11 {b : Nat} (hlink : Cond.fieldLink own idx RX10 "tape" "[I" ∈ sw_T) (ha : a ∈ G.2.1 ∧ G.2.2.1 a = 10) (hr : G.2.2.2.2 a 11 = some b) (d : decode cc pc = .ok (.getfield idx, 3)) (kk : AW l D cy sz own cc nL ret ini R mc ms Q cells slots G  I J (pc + 3) lv (.ref (sz + b) :: st)) : AW l D cy sz own cc nL ret ini R mc ms Q cells slots G  I J pc lv (.ref (sz + a) :: st) := aw_get (ci := 10) (k := 11) (C := RX10) (T := TX10) (N := 62) rfl inT10 (by decide) rfl (by decide) rfl (by rw [hr]; rfl) hlink ha d kk
theorem gf_X10_12 (hlink : Cond.fieldLink own idx RX10 "taped" "I" ∈ sw_T) (ha : a ∈ G.2.1 ∧ G.2.2.1 a = 10) (d : decode cc pc = .ok (.getfield idx, 3)) (kk : AW l D cy sz own cc nL ret ini R mc ms Q cells slots G  I J (pc + 3) lv (.int (I a 12) :: st)) : AW l D cy sz own cc nL ret ini R mc ms Q cells slots G  I J pc lv (.ref (sz + a) :: st) := aw_get (ci := 10) (k := 12) (C := RX10) (T := TX10) (N := 62) rfl inT10 (by decide) rfl (by decide) rfl rfl hlink ha d kk
theorem gf_X10_13 (hlink : Cond.fieldLink own idx RX10 "at" "I" ∈ sw_T) (ha : a ∈ G.2.1 ∧ G.2.2.1 a = 10) (d : decode cc pc = .ok (.getfield idx, 3)) (kk : AW l D cy sz own cc nL ret ini R mc ms Q cells slots G  I J (pc + 3) lv (.int (I a 13) :: st)) : AW l D cy sz own cc nL ret ini R mc ms Q cells slots G  I J pc lv (.ref (sz + a) :: st) := aw_get (ci := 10) (k := 13) (C := RX10) (T := TX10) (N := 62) rfl inT10 (by decide) rfl (by decide) rfl rfl hlink ha d kk
theorem gf_X10_14 (hlink : Cond.fieldLink own idx RX10 "to" "I" ∈ sw_T) (ha : a ∈ G.2.1 ∧ G.2.2.1 a = 10) (d : decode cc pc = .ok (.getfield idx, 3)) (kk : AW l D cy sz own cc nL ret ini R mc ms Q cells slots G  I J (pc + 3) lv (.int (I a 14) :: st)) : AW l D cy sz own cc nL ret ini R mc ms Q cells slots G  I J pc lv (.ref (sz + a) :: st) := aw_get (ci := 10) (k := 14) (C := RX10) (T := TX10) (N := 62) rfl inT10 (by decide) rfl (by decide) rfl rfl hlink ha d kk
theorem gf_X10_15 (hlink : Cond.fieldLink own idx RX10 "nest" "I" ∈ sw_T) (ha : a ∈ G.2.1 ∧ G.2.2.1 a = 10) (d : decode cc pc = .ok (.getfield idx, 3)) (kk : AW l D cy sz own cc nL ret ini R mc ms Q cells slots G  I J (pc + 3) lv (.int (I a 15) :: st)) : AW l D cy sz own cc nL ret ini R mc ms Q cells slots G  I J pc lv (.ref (sz + a) :: st) := aw_get (ci := 10) (k := 15) (C := RX10) (T := TX10) (N := 62) rfl inT10 (by decide) rfl (by decide) rfl rfl hlink ha d kk
theorem gf_X10_16 {b : Nat} (hlink : Cond.fieldLink own idx RX10 "readHome" "[I" ∈ sw_T) (ha : a ∈ G.2.1 ∧ G.2.2.1 a = 10) (hr : G.2.2.2.2 a 16 = some b) (d : decode cc pc = .ok (.getfield idx, 3)) (kk : AW l D cy sz own cc nL ret ini R mc ms Q cells slots G  I J (pc + 3) lv (.ref (sz + b) :: st)) : AW l D cy sz own cc nL ret ini R mc ms Q cells slots G  I J pc lv (.ref (sz + a) :: st) := aw_get (ci := 10) (k := 16) (C := RX10) (T := TX10) (N := 62) rfl inT10 (by decide) rfl (by decide) rfl (by rw [hr]; rfl) hlink ha d kk
theorem gf_X10_17 {b : Nat} (hlink : Cond.fieldLink own idx RX10 "readWish" "[I" ∈ sw_T) (ha : a ∈ G.2.1 ∧ G.2.2.1 a = 10) (hr : G.2.2.2.2 a 17 = some b) (d : decode cc pc = .ok (.getfield idx, 3)) (kk : AW l D cy sz own cc nL ret ini R mc ms Q cells slots G  I J (pc + 3) lv (.ref (sz + b) :: st)) : AW l D cy sz own cc nL ret ini R mc ms Q cells slots G  I J pc lv (.ref (sz + a) :: st) := aw_get (ci := 10) (k := 17) (C := RX10) (T := TX10) (N := 62) rfl inT10 (by decide) rfl (by decide) rfl (by rw [hr]; rfl) hlink ha d kk
theorem gf_X10_18 {b : Nat} (hlink : Cond.fieldLink own idx RX10 "readPlace" "[I" ∈ sw_T) (ha : a ∈ G.2.1 ∧ G.2.2.1 a = 10) (hr : G.2.2.2.2 a 18 = some b) (d : decode cc pc = .ok (.getfield idx, 3)) (kk : AW l D cy sz own cc nL ret ini R mc ms Q cells slots G  I J (pc + 3) lv (.ref (sz + b) :: st)) : AW l D cy sz own cc nL ret ini R mc ms Q cells slots G  I J pc lv (.ref (sz + a) :: st) := aw_get (ci := 10) (k := 18) (C := RX10) (T := TX10) (N := 62) rfl inT10 (by decide) rfl (by decide) rfl (by rw [hr]; rfl) hlink ha d kk
theorem gf_X10_19 (hlink : Cond.fieldLink own idx RX10 "readMany" "I" ∈ sw_T) (ha : a ∈ G.2.1 ∧ G.2.2.1 a = 10) (d : decode cc pc = .ok (.getfield idx, 3)) (kk : AW l D cy sz own cc nL ret ini R mc ms Q cells slots G  I J (pc + 3) lv (.int (I a 19) :: st)) : AW l D cy sz own cc nL ret ini R mc ms Q cells slots G  I J pc lv (.ref (sz + a) :: st) := aw_get (ci := 10) (k := 19) (C := RX10) (T := TX10) (N := 62) rfl inT10 (by decide) rfl (by decide) rfl rfl hlink ha d kk
theorem gf_X10_20 (hlink : Cond.fieldLink own idx RX10 "readIn" "I" ∈ sw_T) (ha : a ∈ G.2.1 ∧ G.2.2.1 a = 10) (d : decode cc pc = .ok (.getfield idx, 3)) (kk : AW l D cy sz own cc nL ret ini R mc ms Q cells slots G  I J (pc + 3) lv (.int (I a 20) :: st)) : AW l D cy sz own cc nL ret ini R mc ms Q cells slots G  I J pc lv (.ref (sz + a) :: st) := aw_get (ci := 10) (k := 20) (C := RX10) (T := TX10) (N := 62) rfl inT10 (by decide) rfl (by decide) rfl rfl hlink ha d kk
theorem gf_X10_21 {b : Nat} (hlink : Cond.fieldLink own idx RX10 "code" "[I" ∈ sw_T) (ha : a ∈ G.2.1 ∧ G.2.2.1 a = 10) (hr : G.2.2.2.2 a 21 = some b) (d : decode cc pc = .ok (.getfield idx, 3)) (kk : AW l D cy sz own cc nL ret ini R mc ms Q cells slots G  I J (pc + 3) lv (.ref (sz + b) :: st)) : AW l D cy sz own cc nL ret ini R mc ms Q cells slots G  I J pc lv (.ref (sz + a) :: st) := aw_get (ci := 10) (k := 21) (C := RX10) (T := TX10) (N := 62) rfl inT10 (by decide) rfl (by decide) rfl (by rw [hr]; rfl) hlink ha d kk
theorem gf_X10_22 {b : Nat} (hlink : Cond.fieldLink own idx RX10 "readCode" "[I" ∈ sw_T) (ha : a ∈ G.2.1 ∧ G.2.2.1 a = 10) (hr : G.2.2.2.2 a 22 = some b) (d : decode cc pc = .ok (.getfield idx, 3)) (kk : AW l D cy sz own cc nL ret ini R mc ms Q cells slots G  I J (pc + 3) lv (.ref (sz + b) :: st)) : AW l D cy sz own cc nL ret ini R mc ms Q cells slots G  I J pc lv (.ref (sz + a) :: st) := aw_get (ci := 10) (k := 22) (C := RX10) (T := TX10) (N := 62) rfl inT10 (by decide) rfl (by decide) rfl (by rw [hr]; rfl) hlink ha d kk
theorem gf_X10_23 (hlink : Cond.fieldLink own idx RX10 "codeLong" "I" ∈ sw_T) (ha : a ∈ G.2.1 ∧ G.2.2.1 a = 10) (d : decode cc pc = .ok (.getfield idx, 3)) (kk : AW l D cy sz own cc nL ret ini R mc ms Q cells slots G  I J (pc + 3) lv (.int (I a 23) :: st)) : AW l D cy sz own cc nL ret ini R mc ms Q cells slots G  I J pc lv (.ref (sz + a) :: st) := aw_get (ci := 10) (k := 23) (C := RX10) (T := TX10) (N := 62) rfl inT10 (by decide) rfl (by decide) rfl rfl hlink ha d kk
theorem gf_X10_24 (hlink : Cond.fieldLink own idx RX10 "readLong" "I" ∈ sw_T) (ha : a ∈ G.2.1 ∧ G.2.2.1 a = 10) (d : decode cc pc = .ok (.getfield idx, 3)) (kk : AW l D cy sz own cc nL ret ini R mc ms Q cells slots G  I J (pc + 3) lv (.int (I a 24) :: st)) : AW l D cy sz own cc nL ret ini R mc ms Q cells slots G  I J pc lv (.ref (sz + a) :: st) := aw_get (ci := 10) (k := 24) (C := RX10) (T := TX10) (N := 62) rfl inT10 (by decide) rfl (by decide) rfl rfl hlink ha d kk
theorem gf_X10_25 {b : Nat} (hlink : Cond.fieldLink own idx RX10 "stack" "[I" ∈ sw_T) (ha : a ∈ G.2.1 ∧ G.2.2.1 a = 10) (hr : G.2.2.2.2 a 25 = some b) (d : decode cc pc = .ok (.getfield idx, 3)) (kk : AW l D cy sz own cc nL ret ini R mc ms Q cells slots G  I J (pc + 3) lv (.ref (sz + b) :: st)) : AW l D cy sz own cc nL ret ini R mc ms Q cells slots G  I J pc lv (.ref (sz + a) :: st) := aw_get (ci := 10) (k := 25) (C := RX10) (T := TX10) (N := 62) rfl inT10 (by decide) rfl (by decide) rfl (by rw [hr]; rfl) hlink ha d kk
theorem gf_X10_26 {b : Nat} (hlink : Cond.fieldLink own idx RX10 "wished" "[I" ∈ sw_T) (ha : a ∈ G.2.1 ∧ G.2.2.1 a = 10) (hr : G.2.2.2.2 a 26 = some b) (d : decode cc pc = .ok (.getfield idx, 3)) (kk : AW l D cy sz own cc nL ret ini R mc ms Q cells slots G  I J (pc + 3) lv (.ref (sz + b) :: st)) : AW l D cy sz own cc nL ret ini R mc ms Q cells slots G  I J pc lv (.ref (sz + a) :: st) := aw_get (ci := 10) (k := 26) (C := RX10) (T := TX10) (N := 62) rfl inT10 (by decide) rfl (by decide) rfl (by rw [hr]; rfl) hlink ha d kk
theorem gf_X10_27 {b : Nat} (hlink : Cond.fieldLink own idx RX10 "standing" "[I" ∈ sw_T) (ha : a ∈ G.2.1 ∧ G.2.2.1 a = 10) (hr : G.2.2.2.2 a 27 = some b) (d : decode cc pc = .ok (.getfield idx, 3)) (kk : AW l D cy sz own cc nL ret ini R mc ms Q cells slots G  I J (pc + 3) lv (.ref (sz + b) :: st)) : AW l D cy sz own cc nL ret ini R mc ms Q cells slots G  I J pc lv (.ref (sz + a) :: st) := aw_get (ci := 10) (k := 27) (C := RX10) (T := TX10) (N := 62) rfl inT10 (by decide) rfl (by decide) rfl (by rw [hr]; rfl) hlink ha d kk
theorem gf_X10_28 (hlink : Cond.fieldLink own idx RX10 "askedIn" "I" ∈ sw_T) (ha : a ∈ G.2.1 ∧ G.2.2.1 a = 10) (d : decode cc pc = .ok (.getfield idx, 3)) (kk : AW l D cy sz own cc nL ret ini R mc ms Q cells slots G  I J (pc + 3) lv (.int (I a 28) :: st)) : AW l D cy sz own cc nL ret ini R mc ms Q cells slots G  I J pc lv (.ref (sz + a) :: st) := aw_get (ci := 10) (k := 28) (C := RX10) (T := TX10) (N := 62) rfl inT10 (by decide) rfl (by decide) rfl rfl hlink ha d kk
theorem gf_X10_29 (hlink : Cond.fieldLink own idx RX10 "askedLift" "I" ∈ sw_T) (ha : a ∈ G.2.1 ∧ G.2.2.1 a = 10) (d : decode cc pc = .ok (.getfield idx, 3)) (kk : AW l D cy sz own cc nL ret ini R mc ms Q cells slots G  I J (pc + 3) lv (.int (I a 29) :: st)) : AW l D cy sz own cc nL ret ini R mc ms Q cells slots G  I J pc lv (.ref (sz + a) :: st) := aw_get (ci := 10) (k := 29) (C := RX10) (T := TX10) (N := 62) rfl inT10 (by decide) rfl (by decide) rfl rfl hlink ha d kk
theorem gf_X10_30 (hlink : Cond.fieldLink own idx RX10 "askedRides" "I" ∈ sw_T) (ha : a ∈ G.2.1 ∧ G.2.2.1 a = 10) (d : decode cc pc = .ok (.getfield idx, 3)) (kk : AW l D cy sz own cc nL ret ini R mc ms Q cells slots G  I J (pc + 3) lv (.int (I a 30) :: st)) : AW l D cy sz own cc nL ret ini R mc ms Q cells slots G  I J pc lv (.ref (sz + a) :: st) := aw_get (ci := 10) (k := 30) (C := RX10) (T := TX10) (N := 62) rfl inT10 (by decide) rfl (by decide) rfl rfl hlink ha d kk
theorem gf_X10_31 (hlink : Cond.fieldLink own idx RX10 "random" "I" ∈ sw_T) (ha : a ∈ G.2.1 ∧ G.2.2.1 a = 10) (d : decode cc pc = .ok (.getfield idx, 3)) (kk : AW l D cy sz own cc nL ret ini R mc ms Q cells slots G  I J (pc + 3) lv (.int (I a 31) :: st)) : AW l D cy sz own cc nL ret ini R mc ms Q cells slots G  I J pc lv (.ref (sz + a) :: st) := aw_get (ci := 10) (k := 31) (C := RX10) (T := TX10) (N := 62) rfl inT10 (by decide) rfl (by decide) rfl rfl hlink ha d kk
theorem gf_X10_32 (hlink : Cond.fieldLink own idx RX10 "undos" "I" ∈ sw_T) (ha : a ∈ G.2.1 ∧ G.2.2.1 a = 10) (d : decode cc pc = .ok (.getfield idx, 3)) (kk : AW l D cy sz own cc nL ret ini R mc ms Q cells slots G  I J (pc + 3) lv (.int (I a 32) :: st)) : AW l D cy sz own cc nL ret ini R mc ms Q cells slots G  I J pc lv (.ref (sz + a) :: st) := aw_get (ci := 10) (k := 32) (C := RX10) (T := TX10) (N := 62) rfl inT10 (by decide) rfl (by decide) rfl rfl hlink ha d kk
theorem gf_X10_33 {b : Nat} (hlink : Cond.fieldLink own idx RX10 "undone" "[I" ∈ sw_T) (ha : a ∈ G.2.1 ∧ G.2.2.1 a = 10) (hr : G.2.2.2.2 a 33 = some b) (d : decode cc pc = .ok (.getfield idx, 3)) (kk : AW l D cy sz own cc nL ret ini R mc ms Q cells slots G  I J (pc + 3) lv (.ref (sz + b) :: st)) : AW l D cy sz own cc nL ret ini R mc ms Q cells slots G  I J pc lv (.ref (sz + a) :: st) := aw_get (ci := 10) (k := 33) (C := RX10) (T := TX10) (N := 62) rfl inT10 (by decide) rfl (by decide) rfl (by rw [hr]; rfl) hlink ha d kk
theorem gf_X10_34 {b : Nat} (hlink : Cond.fieldLink own idx RX10 "actSign" "[I" ∈ sw_T) (ha : a ∈ G.2.1 ∧ G.2.2.1 a = 10) (hr : G.2.2.2.2 a 34 = some b) (d : decode cc pc = .ok (.getfield idx, 3)) (kk : AW l D cy sz own cc nL ret ini R mc ms Q cells slots G  I J (pc + 3) lv (.ref (sz + b) :: st)) : AW l D cy sz own cc nL ret ini R mc ms Q cells slots G  I J pc lv (.ref (sz + a) :: st) := aw_get (ci := 10) (k := 34) (C := RX10) (T := TX10) (N := 62) rfl inT10 (by decide) rfl (by decide) rfl (by rw [hr]; rfl) hlink ha d kk
theorem gf_X10_35 {b : Nat} (hlink : Cond.fieldLink own idx RX10 "actBits" "[I" ∈ sw_T) (ha : a ∈ G.2.1 ∧ G.2.2.1 a = 10) (hr : G.2.2.2.2 a 35 = some b) (d : decode cc pc = .ok (.getfield idx, 3)) (kk : AW l D cy sz own cc nL ret ini R mc ms Q cells slots G  I J (pc + 3) lv (.ref (sz + b) :: st)) : AW l D cy sz own cc nL ret ini R mc ms Q cells slots G  I J pc lv (.ref (sz + a) :: st) := aw_get (ci := 10) (k := 35) (C := RX10) (T := TX10) (N := 62) rfl inT10 (by decide) rfl (by decide) rfl (by rw [hr]; rfl) hlink ha d kk
theorem gf_X10_36 {b : Nat} (hlink : Cond.fieldLink own idx RX10 "actWish" "[I" ∈ sw_T) (ha : a ∈ G.2.1 ∧ G.2.2.1 a = 10) (hr : G.2.2.2.2 a 36 = some b) (d : decode cc pc = .ok (.getfield idx, 3)) (kk : AW l D cy sz own cc nL ret ini R mc ms Q cells slots G  I J (pc + 3) lv (.ref (sz + b) :: st)) : AW l D cy sz own cc nL ret ini R mc ms Q cells slots G  I J pc lv (.ref (sz + a) :: st) := aw_get (ci := 10) (k := 36) (C := RX10) (T := TX10) (N := 62) rfl inT10 (by decide) rfl (by decide) rfl (by rw [hr]; rfl) hlink ha d kk
theorem gf_X10_37 {b : Nat} (hlink : Cond.fieldLink own idx RX10 "actMany" "[I" ∈ sw_T) (ha : a ∈ G.2.1 ∧ G.2.2.1 a = 10) (hr : G.2.2.2.2 a 37 = some b) (d : decode cc pc = .ok (.getfield idx, 3)) (kk : AW l D cy sz own cc nL ret ini R mc ms Q cells slots G  I J (pc + 3) lv (.ref (sz + b) :: st)) : AW l D cy sz own cc nL ret ini R mc ms Q cells slots G  I J pc lv (.ref (sz + a) :: st) := aw_get (ci := 10) (k := 37) (C := RX10) (T := TX10) (N := 62) rfl inT10 (by decide) rfl (by decide) rfl (by rw [hr]; rfl) hlink ha d kk
theorem gf_X10_38 (hlink : Cond.fieldLink own idx RX10 "acts" "I" ∈ sw_T) (ha : a ∈ G.2.1 ∧ G.2.2.1 a = 10) (d : decode cc pc = .ok (.getfield idx, 3)) (kk : AW l D cy sz own cc nL ret ini R mc ms Q cells slots G  I J (pc + 3) lv (.int (I a 38) :: st)) : AW l D cy sz own cc nL ret ini R mc ms Q cells slots G  I J pc lv (.ref (sz + a) :: st) := aw_get (ci := 10) (k := 38) (C := RX10) (T := TX10) (N := 62) rfl inT10 (by decide) rfl (by decide) rfl rfl hlink ha d kk
theorem gf_X10_39 (hlink : Cond.fieldLink own idx RX10 "didSome" "I" ∈ sw_T) (ha : a ∈ G.2.1 ∧ G.2.2.1 a = 10) (d : decode cc pc = .ok (.getfield idx, 3)) (kk : AW l D cy sz own cc nL ret ini R mc ms Q cells slots G  I J (pc + 3) lv (.int (I a 39) :: st)) : AW l D cy sz own cc nL ret ini R mc ms Q cells slots G  I J pc lv (.ref (sz + a) :: st) := aw_get (ci := 10) (k := 39) (C := RX10) (T := TX10) (N := 62) rfl inT10 (by decide) rfl (by decide) rfl rfl hlink ha d kk
theorem gf_X10_40 (hlink : Cond.fieldLink own idx RX10 "rodeNow" "I" ∈ sw_T) (ha : a ∈ G.2.1 ∧ G.2.2.1 a = 10) (d : decode cc pc = .ok (.getfield idx, 3)) (kk : AW l D cy sz own cc nL ret ini R mc ms Q cells slots G  I J (pc + 3) lv (.int (I a 40) :: st)) : AW l D cy sz own cc nL ret ini R mc ms Q cells slots G  I J pc lv (.ref (sz + a) :: st) := aw_get (ci := 10) (k := 40) (C := RX10) (T := TX10) (N := 62) rfl inT10 (by decide) rfl (by decide) rfl rfl hlink ha d kk
theorem gf_X10_41 {b : Nat} (hlink : Cond.fieldLink own idx RX10 "ways" "[I" ∈ sw_T) (ha : a ∈ G.2.1 ∧ G.2.2.1 a = 10) (hr : G.2.2.2.2 a 41 = some b) (d : decode cc pc = .ok (.getfield idx, 3)) (kk : AW l D cy sz own cc nL ret ini R mc ms Q cells slots G  I J (pc + 3) lv (.ref (sz + b) :: st)) : AW l D cy sz own cc nL ret ini R mc ms Q cells slots G  I J pc lv (.ref (sz + a) :: st) := aw_get (ci := 10) (k := 41) (C := RX10) (T := TX10) (N := 62) rfl inT10 (by decide) rfl (by decide) rfl (by rw [hr]; rfl) hlink ha d kk
theorem gf_X10_42 (hlink : Cond.fieldLink own idx RX10 "bestFar" "I" ∈ sw_T) (ha : a ∈ G.2.1 ∧ G.2.2.1 a = 10) (d : decode cc pc = .ok (.getfield idx, 3)) (kk : AW l D cy sz own cc nL ret ini R mc ms Q cells slots G  I J (pc + 3) lv (.int (I a 42) :: st)) : AW l D cy sz own cc nL ret ini R mc ms Q cells slots G  I J pc lv (.ref (sz + a) :: st) := aw_get (ci := 10) (k := 42) (C := RX10) (T := TX10) (N := 62) rfl inT10 (by decide) rfl (by decide) rfl rfl hlink ha d kk
theorem gf_X10_43 {b : Nat} (hlink : Cond.fieldLink own idx RX10 "found" "[J" ∈ sw_T) (ha : a ∈ G.2.1 ∧ G.2.2.1 a = 10) (hr : G.2.2.2.2 a 43 = some b) (d : decode cc pc = .ok (.getfield idx, 3)) (kk : AW l D cy sz own cc nL ret ini R mc ms Q cells slots G  I J (pc + 3) lv (.ref (sz + b) :: st)) : AW l D cy sz own cc nL ret ini R mc ms Q cells slots G  I J pc lv (.ref (sz + a) :: st) := aw_get (ci := 10) (k := 43) (C := RX10) (T := TX10) (N := 62) rfl inT10 (by decide) rfl (by decide) rfl (by rw [hr]; rfl) hlink ha d kk
theorem gf_X10_44 {b : Nat} (hlink : Cond.fieldLink own idx RX10 "from" "[I" ∈ sw_T) (ha : a ∈ G.2.1 ∧ G.2.2.1 a = 10) (hr : G.2.2.2.2 a 44 = some b) (d : decode cc pc = .ok (.getfield idx, 3)) (kk : AW l D cy sz own cc nL ret ini R mc ms Q cells slots G  I J (pc + 3) lv (.ref (sz + b) :: st)) : AW l D cy sz own cc nL ret ini R mc ms Q cells slots G  I J pc lv (.ref (sz + a) :: st) := aw_get (ci := 10) (k := 44) (C := RX10) (T := TX10) (N := 62) rfl inT10 (by decide) rfl (by decide) rfl (by rw [hr]; rfl) hlink ha d kk
theorem gf_X10_45 {b : Nat} (hlink : Cond.fieldLink own idx RX10 "by" "[I" ∈ sw_T) (ha : a ∈ G.2.1 ∧ G.2.2.1 a = 10) (hr : G.2.2.2.2 a 45 = some b) (d : decode cc pc = .ok (.getfield idx, 3)) (kk : AW l D cy sz own cc nL ret ini R mc ms Q cells slots G  I J (pc + 3) lv (.ref (sz + b) :: st)) : AW l D cy sz own cc nL ret ini R mc ms Q cells slots G  I J pc lv (.ref (sz + a) :: st) := aw_get (ci := 10) (k := 45) (C := RX10) (T := TX10) (N := 62) rfl inT10 (by decide) rfl (by decide) rfl (by rw [hr]; rfl) hlink ha d kk
theorem gf_X10_46 {b : Nat} (hlink : Cond.fieldLink own idx RX10 "far" "[I" ∈ sw_T) (ha : a ∈ G.2.1 ∧ G.2.2.1 a = 10) (hr : G.2.2.2.2 a 46 = some b) (d : decode cc pc = .ok (.getfield idx, 3)) (kk : AW l D cy sz own cc nL ret ini R mc ms Q cells slots G  I J (pc + 3) lv (.ref (sz + b) :: st)) : AW l D cy sz own cc nL ret ini R mc ms Q cells slots G  I J pc lv (.ref (sz + a) :: st) := aw_get (ci := 10) (k := 46) (C := RX10) (T := TX10) (N := 62) rfl inT10 (by decide) rfl (by decide) rfl (by rw [hr]; rfl) hlink ha d kk
theorem gf_X10_47 {b : Nat} (hlink : Cond.fieldLink own idx RX10 "slots" "[I" ∈ sw_T) (ha : a ∈ G.2.1 ∧ G.2.2.1 a = 10) (hr : G.2.2.2.2 a 47 = some b) (d : decode cc pc = .ok (.getfield idx, 3)) (kk : AW l D cy sz own cc nL ret ini R mc ms Q cells slots G  I J (pc + 3) lv (.ref (sz + b) :: st)) : AW l D cy sz own cc nL ret ini R mc ms Q cells slots G  I J pc lv (.ref (sz + a) :: st) := aw_get (ci := 10) (k := 47) (C := RX10) (T := TX10) (N := 62) rfl inT10 (by decide) rfl (by decide) rfl (by rw [hr]; rfl) hlink ha d kk
theorem gf_X10_48 (hlink : Cond.fieldLink own idx RX10 "foundMany" "I" ∈ sw_T) (ha : a ∈ G.2.1 ∧ G.2.2.1 a = 10) (d : decode cc pc = .ok (.getfield idx, 3)) (kk : AW l D cy sz own cc nL ret ini R mc ms Q cells slots G  I J (pc + 3) lv (.int (I a 48) :: st)) : AW l D cy sz own cc nL ret ini R mc ms Q cells slots G  I J pc lv (.ref (sz + a) :: st) := aw_get (ci := 10) (k := 48) (C := RX10) (T := TX10) (N := 62) rfl inT10 (by decide) rfl (by decide) rfl rfl hlink ha d kk
theorem gf_X10_49 (hlink : Cond.fieldLink own idx RX10 "isFull" "Z" ∈ sw_T) (ha : a ∈ G.2.1 ∧ G.2.2.1 a = 10) (d : decode cc pc = .ok (.getfield idx, 3)) (kk : AW l D cy sz own cc nL ret ini R mc ms Q cells slots G  I J (pc + 3) lv (.int (I a 49) :: st)) : AW l D cy sz own cc nL ret ini R mc ms Q cells slots G  I J pc lv (.ref (sz + a) :: st) := aw_get (ci := 10) (k := 49) (C := RX10) (T := TX10) (N := 62) rfl inT10 (by decide) rfl (by decide) rfl rfl hlink ha d kk
theorem gf_X10_50 (hlink : Cond.fieldLink own idx RX10 "aim" "I" ∈ sw_T) (ha : a ∈ G.2.1 ∧ G.2.2.1 a = 10) (d : decode cc pc = .ok (.getfield idx, 3)) (kk : AW l D cy sz own cc nL ret ini R mc ms Q cells slots G  I J (pc + 3) lv (.int (I a 50) :: st)) : AW l D cy sz own cc nL ret ini R mc ms Q cells slots G  I J pc lv (.ref (sz + a) :: st) := aw_get (ci := 10) (k := 50) (C := RX10) (T := TX10) (N := 62) rfl inT10 (by decide) rfl (by decide) rfl rfl hlink ha d kk
theorem gf_X10_51 (hlink : Cond.fieldLink own idx RX10 "aimWho" "I" ∈ sw_T) (ha : a ∈ G.2.1 ∧ G.2.2.1 a = 10) (d : decode cc pc = .ok (.getfield idx, 3)) (kk : AW l D cy sz own cc nL ret ini R mc ms Q cells slots G  I J (pc + 3) lv (.int (I a 51) :: st)) : AW l D cy sz own cc nL ret ini R mc ms Q cells slots G  I J pc lv (.ref (sz + a) :: st) := aw_get (ci := 10) (k := 51) (C := RX10) (T := TX10) (N := 62) rfl inT10 (by decide) rfl (by decide) rfl rfl hlink ha d kk
theorem gf_X10_52 (hlink : Cond.fieldLink own idx RX10 "aimFloor" "I" ∈ sw_T) (ha : a ∈ G.2.1 ∧ G.2.2.1 a = 10) (d : decode cc pc = .ok (.getfield idx, 3)) (kk : AW l D cy sz own cc nL ret ini R mc ms Q cells slots G  I J (pc + 3) lv (.int (I a 52) :: st)) : AW l D cy sz own cc nL ret ini R mc ms Q cells slots G  I J pc lv (.ref (sz + a) :: st) := aw_get (ci := 10) (k := 52) (C := RX10) (T := TX10) (N := 62) rfl inT10 (by decide) rfl (by decide) rfl rfl hlink ha d kk
theorem gf_X10_53 {b : Nat} (hlink : Cond.fieldLink own idx RX10 "way" "[I" ∈ sw_T) (ha : a ∈ G.2.1 ∧ G.2.2.1 a = 10) (hr : G.2.2.2.2 a 53 = some b) (d : decode cc pc = .ok (.getfield idx, 3)) (kk : AW l D cy sz own cc nL ret ini R mc ms Q cells slots G  I J (pc + 3) lv (.ref (sz + b) :: st)) : AW l D cy sz own cc nL ret ini R mc ms Q cells slots G  I J pc lv (.ref (sz + a) :: st) := aw_get (ci := 10) (k := 53) (C := RX10) (T := TX10) (N := 62) rfl inT10 (by decide) rfl (by decide) rfl (by rw [hr]; rfl) hlink ha d kk
theorem gf_X10_54 (hlink : Cond.fieldLink own idx RX10 "seens" "I" ∈ sw_T) (ha : a ∈ G.2.1 ∧ G.2.2.1 a = 10) (d : decode cc pc = .ok (.getfield idx, 3)) (kk : AW l D cy sz own cc nL ret ini R mc ms Q cells slots G  I J (pc + 3) lv (.int (I a 54) :: st)) : AW l D cy sz own cc nL ret ini R mc ms Q cells slots G  I J pc lv (.ref (sz + a) :: st) := aw_get (ci := 10) (k := 54) (C := RX10) (T := TX10) (N := 62) rfl inT10 (by decide) rfl (by decide) rfl rfl hlink ha d kk
theorem gf_X10_55 {b : Nat} (hlink : Cond.fieldLink own idx RX10 "seenFrom" "[I" ∈ sw_T) (ha : a ∈ G.2.1 ∧ G.2.2.1 a = 10) (hr : G.2.2.2.2 a 55 = some b) (d : decode cc pc = .ok (.getfield idx, 3)) (kk : AW l D cy sz own cc nL ret ini R mc ms Q cells slots G  I J (pc + 3) lv (.ref (sz + b) :: st)) : AW l D cy sz own cc nL ret ini R mc ms Q cells slots G  I J pc lv (.ref (sz + a) :: st) := aw_get (ci := 10) (k := 55) (C := RX10) (T := TX10) (N := 62) rfl inT10 (by decide) rfl (by decide) rfl (by rw [hr]; rfl) hlink ha d kk
theorem gf_X10_56 {b : Nat} (hlink : Cond.fieldLink own idx RX10 "seenWho" "[I" ∈ sw_T) (ha : a ∈ G.2.1 ∧ G.2.2.1 a = 10) (hr : G.2.2.2.2 a 56 = some b) (d : decode cc pc = .ok (.getfield idx, 3)) (kk : AW l D cy sz own cc nL ret ini R mc ms Q cells slots G  I J (pc + 3) lv (.ref (sz + b) :: st)) : AW l D cy sz own cc nL ret ini R mc ms Q cells slots G  I J pc lv (.ref (sz + a) :: st) := aw_get (ci := 10) (k := 56) (C := RX10) (T := TX10) (N := 62) rfl inT10 (by decide) rfl (by decide) rfl (by rw [hr]; rfl) hlink ha d kk
theorem gf_X10_57 {b : Nat} (hlink : Cond.fieldLink own idx RX10 "seenTo" "[I" ∈ sw_T) (ha : a ∈ G.2.1 ∧ G.2.2.1 a = 10) (hr : G.2.2.2.2 a 57 = some b) (d : decode cc pc = .ok (.getfield idx, 3)) (kk : AW l D cy sz own cc nL ret ini R mc ms Q cells slots G  I J (pc + 3) lv (.ref (sz + b) :: st)) : AW l D cy sz own cc nL ret ini R mc ms Q cells slots G  I J pc lv (.ref (sz + a) :: st) := aw_get (ci := 10) (k := 57) (C := RX10) (T := TX10) (N := 62) rfl inT10 (by decide) rfl (by decide) rfl (by rw [hr]; rfl) hlink ha d kk
theorem gf_X10_58 {b : Nat} (hlink : Cond.fieldLink own idx RX10 "chance" "[J" ∈ sw_T) (ha : a ∈ G.2.1 ∧ G.2.2.1 a = 10) (hr : G.2.2.2.2 a 58 = some b) (d : decode cc pc = .ok (.getfield idx, 3)) (kk : AW l D cy sz own cc nL ret ini R mc ms Q cells slots G  I J (pc + 3) lv (.ref (sz + b) :: st)) : AW l D cy sz own cc nL ret ini R mc ms Q cells slots G  I J pc lv (.ref (sz + a) :: st) := aw_get (ci := 10) (k := 58) (C := RX10) (T := TX10) (N := 62) rfl inT10 (by decide) rfl (by decide) rfl (by rw [hr]; rfl) hlink ha d kk
theorem gf_X10_59 {b : Nat} (hlink : Cond.fieldLink own idx RX10 "isKept" "[Z" ∈ sw_T) (ha : a ∈ G.2.1 ∧ G.2.2.1 a = 10) (hr : G.2.2.2.2 a 59 = some b) (d : decode cc pc = .ok (.getfield idx, 3)) (kk : AW l D cy sz own cc nL ret ini R mc ms Q cells slots G  I J (pc + 3) lv (.ref (sz + b) :: st)) : AW l D cy sz own cc nL ret ini R mc ms Q cells slots G  I J pc lv (.ref (sz + a) :: st) := aw_get (ci := 10) (k := 59) (C := RX10) (T := TX10) (N := 62) rfl inT10 (by decide) rfl (by decide) rfl (by rw [hr]; rfl) hlink ha d kk
theorem gf_X10_60 {b : Nat} (hlink : Cond.fieldLink own idx RX10 "keptChanges" "[I" ∈ sw_T) (ha : a ∈ G.2.1 ∧ G.2.2.1 a = 10) (hr : G.2.2.2.2 a 60 = some b) (d : decode cc pc = .ok (.getfield idx, 3)) (kk : AW l D cy sz own cc nL ret ini R mc ms Q cells slots G  I J (pc + 3) lv (.ref (sz + b) :: st)) : AW l D cy sz own cc nL ret ini R mc ms Q cells slots G  I J pc lv (.ref (sz + a) :: st) := aw_get (ci := 10) (k := 60) (C := RX10) (T := TX10) (N := 62) rfl inT10 (by decide) rfl (by decide) rfl (by rw [hr]; rfl) hlink ha d kk
theorem gf_X10_61 {b : Nat} (hlink : Cond.fieldLink own idx RX10 "kept" "[I" ∈ sw_T) (ha : a ∈ G.2.1 ∧ G.2.2.1 a = 10) (hr : G.2.2.2.2 a 61 = some b) (d : decode cc pc = .ok (.getfield idx, 3)) (kk : AW l D cy sz own cc nL ret ini R mc ms Q cells slots G  I J (pc + 3) lv (.ref (sz + b) :: st)) : AW l D cy sz own cc nL ret ini R mc ms Q cells slots G  I J pc lv (.ref (sz + a) :: st) := aw_get (ci := 10) (k := 61) (C := RX10) (T := TX10) (N := 62) rfl inT10 (by decide) rfl (by decide) rfl (by rw [hr]; rfl) hlink ha d kk
theorem gf_X2_0 {b : Nat} (hlink : Cond.fieldLink own idx RX2 "code" "[I" ∈ sw_T) (ha : a ∈ G.2.1 ∧ G.2.2.1 a = 2) (hr : G.2.2.2.2 a 0 = some b) (d : decode cc pc = .ok (.getfield idx, 3)) (kk : AW l D cy sz own cc nL ret ini R mc ms Q cells slots G  I J (pc + 3) lv (.ref (sz + b) :: st)) : AW l D cy sz own cc nL ret ini R mc ms Q cells slots G  I J pc lv (.ref (sz + a) :: st) := aw_get (ci := 2) (k := 0) (C := RX2) (T := TX2) (N := 6) rfl inT2 (by decide) rfl (by decide) rfl (by rw [hr]; rfl) hlink ha d kk
theorem gf_X2_1 {b : Nat} (hlink : Cond.fieldLink own idx RX2 "waiting" "[I" ∈ sw_T) (ha : a ∈ G.2.1 ∧ G.2.2.1 a = 2) (hr : G.2.2.2.2 a 1 = some b) (d : decode cc pc = .ok (.getfield idx, 3)) (kk : AW l D cy sz own cc nL ret ini R mc ms Q cells slots G  I J (pc + 3) lv (.ref (sz + b) :: st)) : AW l D cy sz own cc nL ret ini R mc ms Q cells slots G  I J pc lv (.ref (sz + a) :: st) := aw_get (ci := 2) (k := 1) (C := RX2) (T := TX2) (N := 6) rfl inT2 (by decide) rfl (by decide) rfl (by rw [hr]; rfl) hlink ha d kk
theorem gf_X2_2 {b : Nat} (hlink : Cond.fieldLink own idx RX2 "values" "[I" ∈ sw_T) (ha : a ∈ G.2.1 ∧ G.2.2.1 a = 2) (hr : G.2.2.2.2 a 2 = some b) (d : decode cc pc = .ok (.getfield idx, 3)) (kk : AW l D cy sz own cc nL ret ini R mc ms Q cells slots G  I J (pc + 3) lv (.ref (sz + b) :: st)) : AW l D cy sz own cc nL ret ini R mc ms Q cells slots G  I J pc lv (.ref (sz + a) :: st) := aw_get (ci := 2) (k := 2) (C := RX2) (T := TX2) (N := 6) rfl inT2 (by decide) rfl (by decide) rfl (by rw [hr]; rfl) hlink ha d kk
theorem gf_X2_3 (hlink : Cond.fieldLink own idx RX2 "size" "I" ∈ sw_T) (ha : a ∈ G.2.1 ∧ G.2.2.1 a = 2) (d : decode cc pc = .ok (.getfield idx, 3)) (kk : AW l D cy sz own cc nL ret ini R mc ms Q cells slots G  I J (pc + 3) lv (.int (I a 3) :: st)) : AW l D cy sz own cc nL ret ini R mc ms Q cells slots G  I J pc lv (.ref (sz + a) :: st) := aw_get (ci := 2) (k := 3) (C := RX2) (T := TX2) (N := 6) rfl inT2 (by decide) rfl (by decide) rfl rfl hlink ha d kk
theorem gf_X2_4 (hlink : Cond.fieldLink own idx RX2 "waitingCount" "I" ∈ sw_T) (ha : a ∈ G.2.1 ∧ G.2.2.1 a = 2) (d : decode cc pc = .ok (.getfield idx, 3)) (kk : AW l D cy sz own cc nL ret ini R mc ms Q cells slots G  I J (pc + 3) lv (.int (I a 4) :: st)) : AW l D cy sz own cc nL ret ini R mc ms Q cells slots G  I J pc lv (.ref (sz + a) :: st) := aw_get (ci := 2) (k := 4) (C := RX2) (T := TX2) (N := 6) rfl inT2 (by decide) rfl (by decide) rfl rfl hlink ha d kk
theorem gf_X2_5 (hlink : Cond.fieldLink own idx RX2 "asksRides" "Z" ∈ sw_T) (ha : a ∈ G.2.1 ∧ G.2.2.1 a = 2) (d : decode cc pc = .ok (.getfield idx, 3)) (kk : AW l D cy sz own cc nL ret ini R mc ms Q cells slots G  I J (pc + 3) lv (.int (I a 5) :: st)) : AW l D cy sz own cc nL ret ini R mc ms Q cells slots G  I J pc lv (.ref (sz + a) :: st) := aw_get (ci := 2) (k := 5) (C := RX2) (T := TX2) (N := 6) rfl inT2 (by decide) rfl (by decide) rfl rfl hlink ha d kk
theorem gf_X3_0 {b : Nat} (hlink : Cond.fieldLink own idx RX3 "at" "[I" ∈ sw_T) (ha : a ∈ G.2.1 ∧ G.2.2.1 a = 3) (hr : G.2.2.2.2 a 0 = some b) (d : decode cc pc = .ok (.getfield idx, 3)) (kk : AW l D cy sz own cc nL ret ini R mc ms Q cells slots G  I J (pc + 3) lv (.ref (sz + b) :: st)) : AW l D cy sz own cc nL ret ini R mc ms Q cells slots G  I J pc lv (.ref (sz + a) :: st) := aw_get (ci := 3) (k := 0) (C := RX3) (T := TX3) (N := 6) rfl inT3 (by decide) rfl (by decide) rfl (by rw [hr]; rfl) hlink ha d kk
theorem gf_X3_1 {b : Nat} (hlink : Cond.fieldLink own idx RX3 "wish" "[I" ∈ sw_T) (ha : a ∈ G.2.1 ∧ G.2.2.1 a = 3) (hr : G.2.2.2.2 a 1 = some b) (d : decode cc pc = .ok (.getfield idx, 3)) (kk : AW l D cy sz own cc nL ret ini R mc ms Q cells slots G  I J (pc + 3) lv (.ref (sz + b) :: st)) : AW l D cy sz own cc nL ret ini R mc ms Q cells slots G  I J pc lv (.ref (sz + a) :: st) := aw_get (ci := 3) (k := 1) (C := RX3) (T := TX3) (N := 6) rfl inT3 (by decide) rfl (by decide) rfl (by rw [hr]; rfl) hlink ha d kk
theorem gf_X3_2 {b : Nat} (hlink : Cond.fieldLink own idx RX3 "ridden" "[I" ∈ sw_T) (ha : a ∈ G.2.1 ∧ G.2.2.1 a = 3) (hr : G.2.2.2.2 a 2 = some b) (d : decode cc pc = .ok (.getfield idx, 3)) (kk : AW l D cy sz own cc nL ret ini R mc ms Q cells slots G  I J (pc + 3) lv (.ref (sz + b) :: st)) : AW l D cy sz own cc nL ret ini R mc ms Q cells slots G  I J pc lv (.ref (sz + a) :: st) := aw_get (ci := 3) (k := 2) (C := RX3) (T := TX3) (N := 6) rfl inT3 (by decide) rfl (by decide) rfl (by rw [hr]; rfl) hlink ha d kk
theorem gf_X3_3 (hlink : Cond.fieldLink own idx RX3 "inside" "I" ∈ sw_T) (ha : a ∈ G.2.1 ∧ G.2.2.1 a = 3) (d : decode cc pc = .ok (.getfield idx, 3)) (kk : AW l D cy sz own cc nL ret ini R mc ms Q cells slots G  I J (pc + 3) lv (.int (I a 3) :: st)) : AW l D cy sz own cc nL ret ini R mc ms Q cells slots G  I J pc lv (.ref (sz + a) :: st) := aw_get (ci := 3) (k := 3) (C := RX3) (T := TX3) (N := 6) rfl inT3 (by decide) rfl (by decide) rfl rfl hlink ha d kk
theorem gf_X3_4 (hlink : Cond.fieldLink own idx RX3 "lift" "I" ∈ sw_T) (ha : a ∈ G.2.1 ∧ G.2.2.1 a = 3) (d : decode cc pc = .ok (.getfield idx, 3)) (kk : AW l D cy sz own cc nL ret ini R mc ms Q cells slots G  I J (pc + 3) lv (.int (I a 4) :: st)) : AW l D cy sz own cc nL ret ini R mc ms Q cells slots G  I J pc lv (.ref (sz + a) :: st) := aw_get (ci := 3) (k := 4) (C := RX3) (T := TX3) (N := 6) rfl inT3 (by decide) rfl (by decide) rfl rfl hlink ha d kk
theorem gf_X3_5 (hlink : Cond.fieldLink own idx RX3 "rides" "I" ∈ sw_T) (ha : a ∈ G.2.1 ∧ G.2.2.1 a = 3) (d : decode cc pc = .ok (.getfield idx, 3)) (kk : AW l D cy sz own cc nL ret ini R mc ms Q cells slots G  I J (pc + 3) lv (.int (I a 5) :: st)) : AW l D cy sz own cc nL ret ini R mc ms Q cells slots G  I J pc lv (.ref (sz + a) :: st) := aw_get (ci := 3) (k := 5) (C := RX3) (T := TX3) (N := 6) rfl inT3 (by decide) rfl (by decide) rfl rfl hlink ha d kk
theorem gf_X4_0 {b : Nat} (hlink : Cond.fieldLink own idx RX4 "moments" "[LLeastWished$Moment;" ∈ sw_T) (ha : a ∈ G.2.1 ∧ G.2.2.1 a = 4) (hr : G.2.2.2.2 a 0 = some b) (d : decode cc pc = .ok (.getfield idx, 3)) (kk : AW l D cy sz own cc nL ret ini R mc ms Q cells slots G  I J (pc + 3) lv (.ref (sz + b) :: st)) : AW l D cy sz own cc nL ret ini R mc ms Q cells slots G  I J pc lv (.ref (sz + a) :: st) := aw_get (ci := 4) (k := 0) (C := RX4) (T := TX4) (N := 3) rfl inT4 (by decide) rfl (by decide) rfl (by rw [hr]; rfl) hlink ha d kk
theorem gf_X4_1 (hlink : Cond.fieldLink own idx RX4 "next" "I" ∈ sw_T) (ha : a ∈ G.2.1 ∧ G.2.2.1 a = 4) (d : decode cc pc = .ok (.getfield idx, 3)) (kk : AW l D cy sz own cc nL ret ini R mc ms Q cells slots G  I J (pc + 3) lv (.int (I a 1) :: st)) : AW l D cy sz own cc nL ret ini R mc ms Q cells slots G  I J pc lv (.ref (sz + a) :: st) := aw_get (ci := 4) (k := 1) (C := RX4) (T := TX4) (N := 3) rfl inT4 (by decide) rfl (by decide) rfl rfl hlink ha d kk
theorem gf_X4_2 (hlink : Cond.fieldLink own idx RX4 "size" "I" ∈ sw_T) (ha : a ∈ G.2.1 ∧ G.2.2.1 a = 4) (d : decode cc pc = .ok (.getfield idx, 3)) (kk : AW l D cy sz own cc nL ret ini R mc ms Q cells slots G  I J (pc + 3) lv (.int (I a 2) :: st)) : AW l D cy sz own cc nL ret ini R mc ms Q cells slots G  I J pc lv (.ref (sz + a) :: st) := aw_get (ci := 4) (k := 2) (C := RX4) (T := TX4) (N := 3) rfl inT4 (by decide) rfl (by decide) rfl rfl hlink ha d kk
theorem gf_X5_0 {b : Nat} (hlink : Cond.fieldLink own idx RX5 "wished" "[I" ∈ sw_T) (ha : a ∈ G.2.1 ∧ G.2.2.1 a = 5) (hr : G.2.2.2.2 a 0 = some b) (d : decode cc pc = .ok (.getfield idx, 3)) (kk : AW l D cy sz own cc nL ret ini R mc ms Q cells slots G  I J (pc + 3) lv (.ref (sz + b) :: st)) : AW l D cy sz own cc nL ret ini R mc ms Q cells slots G  I J pc lv (.ref (sz + a) :: st) := aw_get (ci := 5) (k := 0) (C := RX5) (T := TX5) (N := 5) rfl inT5 (by decide) rfl (by decide) rfl (by rw [hr]; rfl) hlink ha d kk
theorem gf_X5_1 {b : Nat} (hlink : Cond.fieldLink own idx RX5 "standing" "[I" ∈ sw_T) (ha : a ∈ G.2.1 ∧ G.2.2.1 a = 5) (hr : G.2.2.2.2 a 1 = some b) (d : decode cc pc = .ok (.getfield idx, 3)) (kk : AW l D cy sz own cc nL ret ini R mc ms Q cells slots G  I J (pc + 3) lv (.ref (sz + b) :: st)) : AW l D cy sz own cc nL ret ini R mc ms Q cells slots G  I J pc lv (.ref (sz + a) :: st) := aw_get (ci := 5) (k := 1) (C := RX5) (T := TX5) (N := 5) rfl inT5 (by decide) rfl (by decide) rfl (by rw [hr]; rfl) hlink ha d kk
theorem gf_X5_2 (hlink : Cond.fieldLink own idx RX5 "in" "I" ∈ sw_T) (ha : a ∈ G.2.1 ∧ G.2.2.1 a = 5) (d : decode cc pc = .ok (.getfield idx, 3)) (kk : AW l D cy sz own cc nL ret ini R mc ms Q cells slots G  I J (pc + 3) lv (.int (I a 2) :: st)) : AW l D cy sz own cc nL ret ini R mc ms Q cells slots G  I J pc lv (.ref (sz + a) :: st) := aw_get (ci := 5) (k := 2) (C := RX5) (T := TX5) (N := 5) rfl inT5 (by decide) rfl (by decide) rfl rfl hlink ha d kk
theorem gf_X5_3 (hlink : Cond.fieldLink own idx RX5 "lift" "I" ∈ sw_T) (ha : a ∈ G.2.1 ∧ G.2.2.1 a = 5) (d : decode cc pc = .ok (.getfield idx, 3)) (kk : AW l D cy sz own cc nL ret ini R mc ms Q cells slots G  I J (pc + 3) lv (.int (I a 3) :: st)) : AW l D cy sz own cc nL ret ini R mc ms Q cells slots G  I J pc lv (.ref (sz + a) :: st) := aw_get (ci := 5) (k := 3) (C := RX5) (T := TX5) (N := 5) rfl inT5 (by decide) rfl (by decide) rfl rfl hlink ha d kk
theorem gf_X5_4 (hlink : Cond.fieldLink own idx RX5 "rides" "I" ∈ sw_T) (ha : a ∈ G.2.1 ∧ G.2.2.1 a = 5) (d : decode cc pc = .ok (.getfield idx, 3)) (kk : AW l D cy sz own cc nL ret ini R mc ms Q cells slots G  I J (pc + 3) lv (.int (I a 4) :: st)) : AW l D cy sz own cc nL ret ini R mc ms Q cells slots G  I J pc lv (.ref (sz + a) :: st) := aw_get (ci := 5) (k := 4) (C := RX5) (T := TX5) (N := 5) rfl inT5 (by decide) rfl (by decide) rfl rfl hlink ha d kk
theorem gf_X6_0 {b : Nat} (hlink : Cond.fieldLink own idx RX6 "moment" "LLeastWished$Moment;" ∈ sw_T) (ha : a ∈ G.2.1 ∧ G.2.2.1 a = 6) (hr : G.2.2.2.2 a 0 = some b) (d : decode cc pc = .ok (.getfield idx, 3)) (kk : AW l D cy sz own cc nL ret ini R mc ms Q cells slots G  I J (pc + 3) lv (.ref (sz + b) :: st)) : AW l D cy sz own cc nL ret ini R mc ms Q cells slots G  I J pc lv (.ref (sz + a) :: st) := aw_get (ci := 6) (k := 0) (C := RX6) (T := TX6) (N := 10) rfl inT6 (by decide) rfl (by decide) rfl (by rw [hr]; rfl) hlink ha d kk
theorem gf_X6_1 {b : Nat} (hlink : Cond.fieldLink own idx RX6 "keys" "[J" ∈ sw_T) (ha : a ∈ G.2.1 ∧ G.2.2.1 a = 6) (hr : G.2.2.2.2 a 1 = some b) (d : decode cc pc = .ok (.getfield idx, 3)) (kk : AW l D cy sz own cc nL ret ini R mc ms Q cells slots G  I J (pc + 3) lv (.ref (sz + b) :: st)) : AW l D cy sz own cc nL ret ini R mc ms Q cells slots G  I J pc lv (.ref (sz + a) :: st) := aw_get (ci := 6) (k := 1) (C := RX6) (T := TX6) (N := 10) rfl inT6 (by decide) rfl (by decide) rfl (by rw [hr]; rfl) hlink ha d kk
theorem gf_X6_2 {b : Nat} (hlink : Cond.fieldLink own idx RX6 "steps" "[I" ∈ sw_T) (ha : a ∈ G.2.1 ∧ G.2.2.1 a = 6) (hr : G.2.2.2.2 a 2 = some b) (d : decode cc pc = .ok (.getfield idx, 3)) (kk : AW l D cy sz own cc nL ret ini R mc ms Q cells slots G  I J (pc + 3) lv (.ref (sz + b) :: st)) : AW l D cy sz own cc nL ret ini R mc ms Q cells slots G  I J pc lv (.ref (sz + a) :: st) := aw_get (ci := 6) (k := 2) (C := RX6) (T := TX6) (N := 10) rfl inT6 (by decide) rfl (by decide) rfl (by rw [hr]; rfl) hlink ha d kk
theorem gf_X6_3 {b : Nat} (hlink : Cond.fieldLink own idx RX6 "slots" "[I" ∈ sw_T) (ha : a ∈ G.2.1 ∧ G.2.2.1 a = 6) (hr : G.2.2.2.2 a 3 = some b) (d : decode cc pc = .ok (.getfield idx, 3)) (kk : AW l D cy sz own cc nL ret ini R mc ms Q cells slots G  I J (pc + 3) lv (.ref (sz + b) :: st)) : AW l D cy sz own cc nL ret ini R mc ms Q cells slots G  I J pc lv (.ref (sz + a) :: st) := aw_get (ci := 6) (k := 3) (C := RX6) (T := TX6) (N := 10) rfl inT6 (by decide) rfl (by decide) rfl (by rw [hr]; rfl) hlink ha d kk
theorem gf_X6_4 (hlink : Cond.fieldLink own idx RX6 "found" "I" ∈ sw_T) (ha : a ∈ G.2.1 ∧ G.2.2.1 a = 6) (d : decode cc pc = .ok (.getfield idx, 3)) (kk : AW l D cy sz own cc nL ret ini R mc ms Q cells slots G  I J (pc + 3) lv (.int (I a 4) :: st)) : AW l D cy sz own cc nL ret ini R mc ms Q cells slots G  I J pc lv (.ref (sz + a) :: st) := aw_get (ci := 6) (k := 4) (C := RX6) (T := TX6) (N := 10) rfl inT6 (by decide) rfl (by decide) rfl rfl hlink ha d kk
theorem gf_X6_5 (hlink : Cond.fieldLink own idx RX6 "rides" "I" ∈ sw_T) (ha : a ∈ G.2.1 ∧ G.2.2.1 a = 6) (d : decode cc pc = .ok (.getfield idx, 3)) (kk : AW l D cy sz own cc nL ret ini R mc ms Q cells slots G  I J (pc + 3) lv (.int (I a 5) :: st)) : AW l D cy sz own cc nL ret ini R mc ms Q cells slots G  I J pc lv (.ref (sz + a) :: st) := aw_get (ci := 6) (k := 5) (C := RX6) (T := TX6) (N := 10) rfl inT6 (by decide) rfl (by decide) rfl rfl hlink ha d kk
theorem gf_X6_6 (hlink : Cond.fieldLink own idx RX6 "more" "Z" ∈ sw_T) (ha : a ∈ G.2.1 ∧ G.2.2.1 a = 6) (d : decode cc pc = .ok (.getfield idx, 3)) (kk : AW l D cy sz own cc nL ret ini R mc ms Q cells slots G  I J (pc + 3) lv (.int (I a 6) :: st)) : AW l D cy sz own cc nL ret ini R mc ms Q cells slots G  I J pc lv (.ref (sz + a) :: st) := aw_get (ci := 6) (k := 6) (C := RX6) (T := TX6) (N := 10) rfl inT6 (by decide) rfl (by decide) rfl rfl hlink ha d kk
theorem gf_X6_7 (hlink : Cond.fieldLink own idx RX6 "wanted" "I" ∈ sw_T) (ha : a ∈ G.2.1 ∧ G.2.2.1 a = 6) (d : decode cc pc = .ok (.getfield idx, 3)) (kk : AW l D cy sz own cc nL ret ini R mc ms Q cells slots G  I J (pc + 3) lv (.int (I a 7) :: st)) : AW l D cy sz own cc nL ret ini R mc ms Q cells slots G  I J pc lv (.ref (sz + a) :: st) := aw_get (ci := 6) (k := 7) (C := RX6) (T := TX6) (N := 10) rfl inT6 (by decide) rfl (by decide) rfl rfl hlink ha d kk
theorem gf_X6_8 (hlink : Cond.fieldLink own idx RX6 "wantedThose" "I" ∈ sw_T) (ha : a ∈ G.2.1 ∧ G.2.2.1 a = 6) (d : decode cc pc = .ok (.getfield idx, 3)) (kk : AW l D cy sz own cc nL ret ini R mc ms Q cells slots G  I J (pc + 3) lv (.int (I a 8) :: st)) : AW l D cy sz own cc nL ret ini R mc ms Q cells slots G  I J pc lv (.ref (sz + a) :: st) := aw_get (ci := 6) (k := 8) (C := RX6) (T := TX6) (N := 10) rfl inT6 (by decide) rfl (by decide) rfl rfl hlink ha d kk
theorem gf_X6_9 (hlink : Cond.fieldLink own idx RX6 "wantedFloor" "I" ∈ sw_T) (ha : a ∈ G.2.1 ∧ G.2.2.1 a = 6) (d : decode cc pc = .ok (.getfield idx, 3)) (kk : AW l D cy sz own cc nL ret ini R mc ms Q cells slots G  I J (pc + 3) lv (.int (I a 9) :: st)) : AW l D cy sz own cc nL ret ini R mc ms Q cells slots G  I J pc lv (.ref (sz + a) :: st) := aw_get (ci := 6) (k := 9) (C := RX6) (T := TX6) (N := 10) rfl inT6 (by decide) rfl (by decide) rfl rfl hlink ha d kk
theorem gf_X7_0 {b : Nat} (hlink : Cond.fieldLink own idx RX7 "from" "[I" ∈ sw_T) (ha : a ∈ G.2.1 ∧ G.2.2.1 a = 7) (hr : G.2.2.2.2 a 0 = some b) (d : decode cc pc = .ok (.getfield idx, 3)) (kk : AW l D cy sz own cc nL ret ini R mc ms Q cells slots G  I J (pc + 3) lv (.ref (sz + b) :: st)) : AW l D cy sz own cc nL ret ini R mc ms Q cells slots G  I J pc lv (.ref (sz + a) :: st) := aw_get (ci := 7) (k := 0) (C := RX7) (T := TX7) (N := 5) rfl inT7 (by decide) rfl (by decide) rfl (by rw [hr]; rfl) hlink ha d kk
theorem gf_X7_1 {b : Nat} (hlink : Cond.fieldLink own idx RX7 "those" "[I" ∈ sw_T) (ha : a ∈ G.2.1 ∧ G.2.2.1 a = 7) (hr : G.2.2.2.2 a 1 = some b) (d : decode cc pc = .ok (.getfield idx, 3)) (kk : AW l D cy sz own cc nL ret ini R mc ms Q cells slots G  I J (pc + 3) lv (.ref (sz + b) :: st)) : AW l D cy sz own cc nL ret ini R mc ms Q cells slots G  I J pc lv (.ref (sz + a) :: st) := aw_get (ci := 7) (k := 1) (C := RX7) (T := TX7) (N := 5) rfl inT7 (by decide) rfl (by decide) rfl (by rw [hr]; rfl) hlink ha d kk
theorem gf_X7_2 {b : Nat} (hlink : Cond.fieldLink own idx RX7 "to" "[I" ∈ sw_T) (ha : a ∈ G.2.1 ∧ G.2.2.1 a = 7) (hr : G.2.2.2.2 a 2 = some b) (d : decode cc pc = .ok (.getfield idx, 3)) (kk : AW l D cy sz own cc nL ret ini R mc ms Q cells slots G  I J (pc + 3) lv (.ref (sz + b) :: st)) : AW l D cy sz own cc nL ret ini R mc ms Q cells slots G  I J pc lv (.ref (sz + a) :: st) := aw_get (ci := 7) (k := 2) (C := RX7) (T := TX7) (N := 5) rfl inT7 (by decide) rfl (by decide) rfl (by rw [hr]; rfl) hlink ha d kk
theorem gf_X7_3 {b : Nat} (hlink : Cond.fieldLink own idx RX7 "alone" "LLeastWished$Moment;" ∈ sw_T) (ha : a ∈ G.2.1 ∧ G.2.2.1 a = 7) (hr : G.2.2.2.2 a 3 = some b) (d : decode cc pc = .ok (.getfield idx, 3)) (kk : AW l D cy sz own cc nL ret ini R mc ms Q cells slots G  I J (pc + 3) lv (.ref (sz + b) :: st)) : AW l D cy sz own cc nL ret ini R mc ms Q cells slots G  I J pc lv (.ref (sz + a) :: st) := aw_get (ci := 7) (k := 3) (C := RX7) (T := TX7) (N := 5) rfl inT7 (by decide) rfl (by decide) rfl (by rw [hr]; rfl) hlink ha d kk
theorem gf_X7_4 (hlink : Cond.fieldLink own idx RX7 "size" "I" ∈ sw_T) (ha : a ∈ G.2.1 ∧ G.2.2.1 a = 7) (d : decode cc pc = .ok (.getfield idx, 3)) (kk : AW l D cy sz own cc nL ret ini R mc ms Q cells slots G  I J (pc + 3) lv (.int (I a 4) :: st)) : AW l D cy sz own cc nL ret ini R mc ms Q cells slots G  I J pc lv (.ref (sz + a) :: st) := aw_get (ci := 7) (k := 4) (C := RX7) (T := TX7) (N := 5) rfl inT7 (by decide) rfl (by decide) rfl rfl hlink ha d kk
theorem gf_X8_0 {b : Nat} (hlink : Cond.fieldLink own idx RX8 "signs" "[I" ∈ sw_T) (ha : a ∈ G.2.1 ∧ G.2.2.1 a = 8) (hr : G.2.2.2.2 a 0 = some b) (d : decode cc pc = .ok (.getfield idx, 3)) (kk : AW l D cy sz own cc nL ret ini R mc ms Q cells slots G  I J (pc + 3) lv (.ref (sz + b) :: st)) : AW l D cy sz own cc nL ret ini R mc ms Q cells slots G  I J pc lv (.ref (sz + a) :: st) := aw_get (ci := 8) (k := 0) (C := RX8) (T := TX8) (N := 2) rfl inT8 (by decide) rfl (by decide) rfl (by rw [hr]; rfl) hlink ha d kk
theorem gf_X8_1 (hlink : Cond.fieldLink own idx RX8 "size" "I" ∈ sw_T) (ha : a ∈ G.2.1 ∧ G.2.2.1 a = 8) (d : decode cc pc = .ok (.getfield idx, 3)) (kk : AW l D cy sz own cc nL ret ini R mc ms Q cells slots G  I J (pc + 3) lv (.int (I a 1) :: st)) : AW l D cy sz own cc nL ret ini R mc ms Q cells slots G  I J pc lv (.ref (sz + a) :: st) := aw_get (ci := 8) (k := 1) (C := RX8) (T := TX8) (N := 2) rfl inT8 (by decide) rfl (by decide) rfl rfl hlink ha d kk
theorem gf_X9_0 {b : Nat} (hlink : Cond.fieldLink own idx RX9 "text" "LLeastWished$Text;" ∈ sw_T) (ha : a ∈ G.2.1 ∧ G.2.2.1 a = 9) (hr : G.2.2.2.2 a 0 = some b) (d : decode cc pc = .ok (.getfield idx, 3)) (kk : AW l D cy sz own cc nL ret ini R mc ms Q cells slots G  I J (pc + 3) lv (.ref (sz + b) :: st)) : AW l D cy sz own cc nL ret ini R mc ms Q cells slots G  I J pc lv (.ref (sz + a) :: st) := aw_get (ci := 9) (k := 0) (C := RX9) (T := TX9) (N := 13) rfl inT9 (by decide) rfl (by decide) rfl (by rw [hr]; rfl) hlink ha d kk
theorem gf_X9_1 {b : Nat} (hlink : Cond.fieldLink own idx RX9 "building" "LLeastWished$House;" ∈ sw_T) (ha : a ∈ G.2.1 ∧ G.2.2.1 a = 9) (hr : G.2.2.2.2 a 1 = some b) (d : decode cc pc = .ok (.getfield idx, 3)) (kk : AW l D cy sz own cc nL ret ini R mc ms Q cells slots G  I J (pc + 3) lv (.ref (sz + b) :: st)) : AW l D cy sz own cc nL ret ini R mc ms Q cells slots G  I J pc lv (.ref (sz + a) :: st) := aw_get (ci := 9) (k := 1) (C := RX9) (T := TX9) (N := 13) rfl inT9 (by decide) rfl (by decide) rfl (by rw [hr]; rfl) hlink ha d kk
theorem gf_X9_2 {b : Nat} (hlink : Cond.fieldLink own idx RX9 "now" "LLeastWished$Moment;" ∈ sw_T) (ha : a ∈ G.2.1 ∧ G.2.2.1 a = 9) (hr : G.2.2.2.2 a 2 = some b) (d : decode cc pc = .ok (.getfield idx, 3)) (kk : AW l D cy sz own cc nL ret ini R mc ms Q cells slots G  I J (pc + 3) lv (.ref (sz + b) :: st)) : AW l D cy sz own cc nL ret ini R mc ms Q cells slots G  I J pc lv (.ref (sz + a) :: st) := aw_get (ci := 9) (k := 2) (C := RX9) (T := TX9) (N := 13) rfl inT9 (by decide) rfl (by decide) rfl (by rw [hr]; rfl) hlink ha d kk
theorem gf_X9_3 {b : Nat} (hlink : Cond.fieldLink own idx RX9 "trial" "LLeastWished$Moment;" ∈ sw_T) (ha : a ∈ G.2.1 ∧ G.2.2.1 a = 9) (hr : G.2.2.2.2 a 3 = some b) (d : decode cc pc = .ok (.getfield idx, 3)) (kk : AW l D cy sz own cc nL ret ini R mc ms Q cells slots G  I J (pc + 3) lv (.ref (sz + b) :: st)) : AW l D cy sz own cc nL ret ini R mc ms Q cells slots G  I J pc lv (.ref (sz + a) :: st) := aw_get (ci := 9) (k := 3) (C := RX9) (T := TX9) (N := 13) rfl inT9 (by decide) rfl (by decide) rfl (by rw [hr]; rfl) hlink ha d kk
theorem gf_X9_4 {b : Nat} (hlink : Cond.fieldLink own idx RX9 "past" "LLeastWished$Past;" ∈ sw_T) (ha : a ∈ G.2.1 ∧ G.2.2.1 a = 9) (hr : G.2.2.2.2 a 4 = some b) (d : decode cc pc = .ok (.getfield idx, 3)) (kk : AW l D cy sz own cc nL ret ini R mc ms Q cells slots G  I J (pc + 3) lv (.ref (sz + b) :: st)) : AW l D cy sz own cc nL ret ini R mc ms Q cells slots G  I J pc lv (.ref (sz + a) :: st) := aw_get (ci := 9) (k := 4) (C := RX9) (T := TX9) (N := 13) rfl inT9 (by decide) rfl (by decide) rfl (by rw [hr]; rfl) hlink ha d kk
theorem gf_X9_5 {b : Nat} (hlink : Cond.fieldLink own idx RX9 "kept" "[LLeastWished$Moment;" ∈ sw_T) (ha : a ∈ G.2.1 ∧ G.2.2.1 a = 9) (hr : G.2.2.2.2 a 5 = some b) (d : decode cc pc = .ok (.getfield idx, 3)) (kk : AW l D cy sz own cc nL ret ini R mc ms Q cells slots G  I J (pc + 3) lv (.ref (sz + b) :: st)) : AW l D cy sz own cc nL ret ini R mc ms Q cells slots G  I J pc lv (.ref (sz + a) :: st) := aw_get (ci := 9) (k := 5) (C := RX9) (T := TX9) (N := 13) rfl inT9 (by decide) rfl (by decide) rfl (by rw [hr]; rfl) hlink ha d kk
theorem gf_X9_6 {b : Nat} (hlink : Cond.fieldLink own idx RX9 "isKept" "[Z" ∈ sw_T) (ha : a ∈ G.2.1 ∧ G.2.2.1 a = 9) (hr : G.2.2.2.2 a 6 = some b) (d : decode cc pc = .ok (.getfield idx, 3)) (kk : AW l D cy sz own cc nL ret ini R mc ms Q cells slots G  I J (pc + 3) lv (.ref (sz + b) :: st)) : AW l D cy sz own cc nL ret ini R mc ms Q cells slots G  I J pc lv (.ref (sz + a) :: st) := aw_get (ci := 9) (k := 6) (C := RX9) (T := TX9) (N := 13) rfl inT9 (by decide) rfl (by decide) rfl (by rw [hr]; rfl) hlink ha d kk
theorem gf_X9_7 {b : Nat} (hlink : Cond.fieldLink own idx RX9 "seen" "LLeastWished$Seen;" ∈ sw_T) (ha : a ∈ G.2.1 ∧ G.2.2.1 a = 9) (hr : G.2.2.2.2 a 7 = some b) (d : decode cc pc = .ok (.getfield idx, 3)) (kk : AW l D cy sz own cc nL ret ini R mc ms Q cells slots G  I J (pc + 3) lv (.ref (sz + b) :: st)) : AW l D cy sz own cc nL ret ini R mc ms Q cells slots G  I J pc lv (.ref (sz + a) :: st) := aw_get (ci := 9) (k := 7) (C := RX9) (T := TX9) (N := 13) rfl inT9 (by decide) rfl (by decide) rfl (by rw [hr]; rfl) hlink ha d kk
theorem gf_X9_8 {b : Nat} (hlink : Cond.fieldLink own idx RX9 "chances" "[J" ∈ sw_T) (ha : a ∈ G.2.1 ∧ G.2.2.1 a = 9) (hr : G.2.2.2.2 a 8 = some b) (d : decode cc pc = .ok (.getfield idx, 3)) (kk : AW l D cy sz own cc nL ret ini R mc ms Q cells slots G  I J (pc + 3) lv (.ref (sz + b) :: st)) : AW l D cy sz own cc nL ret ini R mc ms Q cells slots G  I J pc lv (.ref (sz + a) :: st) := aw_get (ci := 9) (k := 8) (C := RX9) (T := TX9) (N := 13) rfl inT9 (by decide) rfl (by decide) rfl (by rw [hr]; rfl) hlink ha d kk
theorem gf_X9_9 {b : Nat} (hlink : Cond.fieldLink own idx RX9 "told" "[J" ∈ sw_T) (ha : a ∈ G.2.1 ∧ G.2.2.1 a = 9) (hr : G.2.2.2.2 a 9 = some b) (d : decode cc pc = .ok (.getfield idx, 3)) (kk : AW l D cy sz own cc nL ret ini R mc ms Q cells slots G  I J (pc + 3) lv (.ref (sz + b) :: st)) : AW l D cy sz own cc nL ret ini R mc ms Q cells slots G  I J pc lv (.ref (sz + a) :: st) := aw_get (ci := 9) (k := 9) (C := RX9) (T := TX9) (N := 13) rfl inT9 (by decide) rfl (by decide) rfl (by rw [hr]; rfl) hlink ha d kk
theorem gf_X9_10 (hlink : Cond.fieldLink own idx RX9 "toldCount" "I" ∈ sw_T) (ha : a ∈ G.2.1 ∧ G.2.2.1 a = 9) (d : decode cc pc = .ok (.getfield idx, 3)) (kk : AW l D cy sz own cc nL ret ini R mc ms Q cells slots G  I J (pc + 3) lv (.int (I a 10) :: st)) : AW l D cy sz own cc nL ret ini R mc ms Q cells slots G  I J pc lv (.ref (sz + a) :: st) := aw_get (ci := 9) (k := 10) (C := RX9) (T := TX9) (N := 13) rfl inT9 (by decide) rfl (by decide) rfl rfl hlink ha d kk
theorem gf_X9_11 {b : Nat} (hlink : Cond.fieldLink own idx RX9 "today" "LLeastWished$Day;" ∈ sw_T) (ha : a ∈ G.2.1 ∧ G.2.2.1 a = 9) (hr : G.2.2.2.2 a 11 = some b) (d : decode cc pc = .ok (.getfield idx, 3)) (kk : AW l D cy sz own cc nL ret ini R mc ms Q cells slots G  I J (pc + 3) lv (.ref (sz + b) :: st)) : AW l D cy sz own cc nL ret ini R mc ms Q cells slots G  I J pc lv (.ref (sz + a) :: st) := aw_get (ci := 9) (k := 11) (C := RX9) (T := TX9) (N := 13) rfl inT9 (by decide) rfl (by decide) rfl (by rw [hr]; rfl) hlink ha d kk
theorem gf_X9_12 {b : Nat} (hlink : Cond.fieldLink own idx RX9 "plans" "LLeastWished$Search;" ∈ sw_T) (ha : a ∈ G.2.1 ∧ G.2.2.1 a = 9) (hr : G.2.2.2.2 a 12 = some b) (d : decode cc pc = .ok (.getfield idx, 3)) (kk : AW l D cy sz own cc nL ret ini R mc ms Q cells slots G  I J (pc + 3) lv (.ref (sz + b) :: st)) : AW l D cy sz own cc nL ret ini R mc ms Q cells slots G  I J pc lv (.ref (sz + a) :: st) := aw_get (ci := 9) (k := 12) (C := RX9) (T := TX9) (N := 13) rfl inT9 (by decide) rfl (by decide) rfl (by rw [hr]; rfl) hlink ha d kk
theorem pf_X0_0 {v : Int32} (hlink : Cond.fieldLink own idx RX0 "acts" "I" ∈ sw_T) (ha : a ∈ G.2.1 ∧ G.2.2.1 a = 0) (d : decode cc pc = .ok (.putfield idx, 3)) (kk : AW l D cy sz own cc nL ret ini R mc ms Q cells slots G  (sw_up I a 0 v) J (pc + 3) lv st) : AW l D cy sz own cc nL ret ini R mc ms Q cells slots G  I J pc lv (.int v :: .ref (sz + a) :: st) := aw_putI (ci := 0) (k := 0) (C := RX0) (T := TX0) (N := 3) (ty := .int) rfl inT0 tyX0 tyX0_ok nmX0 (by decide) rfl (by decide) rfl rfl rfl rfl rfl rfl hlink ha d kk
theorem pf_X0_1 {v : Int32} (hlink : Cond.fieldLink own idx RX0 "rides" "I" ∈ sw_T) (ha : a ∈ G.2.1 ∧ G.2.2.1 a = 0) (d : decode cc pc = .ok (.putfield idx, 3)) (kk : AW l D cy sz own cc nL ret ini R mc ms Q cells slots G  (sw_up I a 1 v) J (pc + 3) lv st) : AW l D cy sz own cc nL ret ini R mc ms Q cells slots G  I J pc lv (.int v :: .ref (sz + a) :: st) := aw_putI (ci := 0) (k := 1) (C := RX0) (T := TX0) (N := 3) (ty := .int) rfl inT0 tyX0 tyX0_ok nmX0 (by decide) rfl (by decide) rfl rfl rfl rfl rfl rfl hlink ha d kk
theorem pf_X0_2 {v : Int32} (hlink : Cond.fieldLink own idx RX0 "deeds" "I" ∈ sw_T) (ha : a ∈ G.2.1 ∧ G.2.2.1 a = 0) (d : decode cc pc = .ok (.putfield idx, 3)) (kk : AW l D cy sz own cc nL ret ini R mc ms Q cells slots G  (sw_up I a 2 v) J (pc + 3) lv st) : AW l D cy sz own cc nL ret ini R mc ms Q cells slots G  I J pc lv (.int v :: .ref (sz + a) :: st) := aw_putI (ci := 0) (k := 2) (C := RX0) (T := TX0) (N := 3) (ty := .int) rfl inT0 tyX0 tyX0_ok nmX0 (by decide) rfl (by decide) rfl rfl rfl rfl rfl rfl hlink ha d kk
theorem pf_X1_0 {v : Int32} (hlink : Cond.fieldLink own idx RX1 "floors" "I" ∈ sw_T) (ha : a ∈ G.2.1 ∧ G.2.2.1 a = 1) (d : decode cc pc = .ok (.putfield idx, 3)) (kk : AW l D cy sz own cc nL ret ini R mc ms Q cells slots G  (sw_up I a 0 v) J (pc + 3) lv st) : AW l D cy sz own cc nL ret ini R mc ms Q cells slots G  I J pc lv (.int v :: .ref (sz + a) :: st) := aw_putI (ci := 1) (k := 0) (C := RX1) (T := TX1) (N := 7) (ty := .int) rfl inT1 tyX1 tyX1_ok nmX1 (by decide) rfl (by decide) rfl rfl rfl rfl rfl rfl hlink ha d kk
theorem pf_X1_1 {v : Int32} (hlink : Cond.fieldLink own idx RX1 "dogFloor" "I" ∈ sw_T) (ha : a ∈ G.2.1 ∧ G.2.2.1 a = 1) (d : decode cc pc = .ok (.putfield idx, 3)) (kk : AW l D cy sz own cc nL ret ini R mc ms Q cells slots G  (sw_up I a 1 v) J (pc + 3) lv st) : AW l D cy sz own cc nL ret ini R mc ms Q cells slots G  I J pc lv (.int v :: .ref (sz + a) :: st) := aw_putI (ci := 1) (k := 1) (C := RX1) (T := TX1) (N := 7) (ty := .int) rfl inT1 tyX1 tyX1_ok nmX1 (by decide) rfl (by decide) rfl rfl rfl rfl rfl rfl hlink ha d kk
theorem pf_X1_2 {v : Int32} (hlink : Cond.fieldLink own idx RX1 "riders" "I" ∈ sw_T) (ha : a ∈ G.2.1 ∧ G.2.2.1 a = 1) (d : decode cc pc = .ok (.putfield idx, 3)) (kk : AW l D cy sz own cc nL ret ini R mc ms Q cells slots G  (sw_up I a 2 v) J (pc + 3) lv st) : AW l D cy sz own cc nL ret ini R mc ms Q cells slots G  I J pc lv (.int v :: .ref (sz + a) :: st) := aw_putI (ci := 1) (k := 2) (C := RX1) (T := TX1) (N := 7) (ty := .int) rfl inT1 tyX1 tyX1_ok nmX1 (by decide) rfl (by decide) rfl rfl rfl rfl rfl rfl hlink ha d kk
theorem pf_X10_0 {v : Int32} (hlink : Cond.fieldLink own idx RX10 "thrown" "I" ∈ sw_T) (ha : a ∈ G.2.1 ∧ G.2.2.1 a = 10) (d : decode cc pc = .ok (.putfield idx, 3)) (kk : AW l D cy sz own cc nL ret ini R mc ms Q cells slots G  (sw_up I a 0 v) J (pc + 3) lv st) : AW l D cy sz own cc nL ret ini R mc ms Q cells slots G  I J pc lv (.int v :: .ref (sz + a) :: st) := aw_putI (ci := 10) (k := 0) (C := RX10) (T := TX10) (N := 62) (ty := .int) rfl inT10 tyX10 tyX10_ok nmX10 (by decide) rfl (by decide) rfl rfl rfl rfl rfl rfl hlink ha d kk
theorem pf_X10_1 {v : Int32} (hlink : Cond.fieldLink own idx RX10 "rows" "I" ∈ sw_T) (ha : a ∈ G.2.1 ∧ G.2.2.1 a = 10) (d : decode cc pc = .ok (.putfield idx, 3)) (kk : AW l D cy sz own cc nL ret ini R mc ms Q cells slots G  (sw_up I a 1 v) J (pc + 3) lv st) : AW l D cy sz own cc nL ret ini R mc ms Q cells slots G  I J pc lv (.int v :: .ref (sz + a) :: st) := aw_putI (ci := 10) (k := 1) (C := RX10) (T := TX10) (N := 62) (ty := .int) rfl inT10 tyX10 tyX10_ok nmX10 (by decide) rfl (by decide) rfl rfl rfl rfl rfl rfl hlink ha d kk
theorem pf_X10_3 {v : Int32} (hlink : Cond.fieldLink own idx RX10 "floors" "I" ∈ sw_T) (ha : a ∈ G.2.1 ∧ G.2.2.1 a = 10) (d : decode cc pc = .ok (.putfield idx, 3)) (kk : AW l D cy sz own cc nL ret ini R mc ms Q cells slots G  (sw_up I a 3 v) J (pc + 3) lv st) : AW l D cy sz own cc nL ret ini R mc ms Q cells slots G  I J pc lv (.int v :: .ref (sz + a) :: st) := aw_putI (ci := 10) (k := 3) (C := RX10) (T := TX10) (N := 62) (ty := .int) rfl inT10 tyX10 tyX10_ok nmX10 (by decide) rfl (by decide) rfl rfl rfl rfl rfl rfl hlink ha d kk
theorem pf_X10_4 {v : Int32} (hlink : Cond.fieldLink own idx RX10 "riders" "I" ∈ sw_T) (ha : a ∈ G.2.1 ∧ G.2.2.1 a = 10) (d : decode cc pc = .ok (.putfield idx, 3)) (kk : AW l D cy sz own cc nL ret ini R mc ms Q cells slots G  (sw_up I a 4 v) J (pc + 3) lv st) : AW l D cy sz own cc nL ret ini R mc ms Q cells slots G  I J pc lv (.int v :: .ref (sz + a) :: st) := aw_putI (ci := 10) (k := 4) (C := RX10) (T := TX10) (N := 62) (ty := .int) rfl inT10 tyX10 tyX10_ok nmX10 (by decide) rfl (by decide) rfl rfl rfl rfl rfl rfl hlink ha d kk
theorem pf_X10_5 {v : Int32} (hlink : Cond.fieldLink own idx RX10 "dog" "I" ∈ sw_T) (ha : a ∈ G.2.1 ∧ G.2.2.1 a = 10) (d : decode cc pc = .ok (.putfield idx, 3)) (kk : AW l D cy sz own cc nL ret ini R mc ms Q cells slots G  (sw_up I a 5 v) J (pc + 3) lv st) : AW l D cy sz own cc nL ret ini R mc ms Q cells slots G  I J pc lv (.int v :: .ref (sz + a) :: st) := aw_putI (ci := 10) (k := 5) (C := RX10) (T := TX10) (N := 62) (ty := .int) rfl inT10 tyX10 tyX10_ok nmX10 (by decide) rfl (by decide) rfl rfl rfl rfl rfl rfl hlink ha d kk
theorem pf_X10_6 {v : Int32} (hlink : Cond.fieldLink own idx RX10 "changes" "I" ∈ sw_T) (ha : a ∈ G.2.1 ∧ G.2.2.1 a = 10) (d : decode cc pc = .ok (.putfield idx, 3)) (kk : AW l D cy sz own cc nL ret ini R mc ms Q cells slots G  (sw_up I a 6 v) J (pc + 3) lv st) : AW l D cy sz own cc nL ret ini R mc ms Q cells slots G  I J pc lv (.int v :: .ref (sz + a) :: st) := aw_putI (ci := 10) (k := 6) (C := RX10) (T := TX10) (N := 62) (ty := .int) rfl inT10 tyX10 tyX10_ok nmX10 (by decide) rfl (by decide) rfl rfl rfl rfl rfl rfl hlink ha d kk
theorem pf_X10_12 {v : Int32} (hlink : Cond.fieldLink own idx RX10 "taped" "I" ∈ sw_T) (ha : a ∈ G.2.1 ∧ G.2.2.1 a = 10) (d : decode cc pc = .ok (.putfield idx, 3)) (kk : AW l D cy sz own cc nL ret ini R mc ms Q cells slots G  (sw_up I a 12 v) J (pc + 3) lv st) : AW l D cy sz own cc nL ret ini R mc ms Q cells slots G  I J pc lv (.int v :: .ref (sz + a) :: st) := aw_putI (ci := 10) (k := 12) (C := RX10) (T := TX10) (N := 62) (ty := .int) rfl inT10 tyX10 tyX10_ok nmX10 (by decide) rfl (by decide) rfl rfl rfl rfl rfl rfl hlink ha d kk
theorem pf_X10_13 {v : Int32} (hlink : Cond.fieldLink own idx RX10 "at" "I" ∈ sw_T) (ha : a ∈ G.2.1 ∧ G.2.2.1 a = 10) (d : decode cc pc = .ok (.putfield idx, 3)) (kk : AW l D cy sz own cc nL ret ini R mc ms Q cells slots G  (sw_up I a 13 v) J (pc + 3) lv st) : AW l D cy sz own cc nL ret ini R mc ms Q cells slots G  I J pc lv (.int v :: .ref (sz + a) :: st) := aw_putI (ci := 10) (k := 13) (C := RX10) (T := TX10) (N := 62) (ty := .int) rfl inT10 tyX10 tyX10_ok nmX10 (by decide) rfl (by decide) rfl rfl rfl rfl rfl rfl hlink ha d kk
theorem pf_X10_14 {v : Int32} (hlink : Cond.fieldLink own idx RX10 "to" "I" ∈ sw_T) (ha : a ∈ G.2.1 ∧ G.2.2.1 a = 10) (d : decode cc pc = .ok (.putfield idx, 3)) (kk : AW l D cy sz own cc nL ret ini R mc ms Q cells slots G  (sw_up I a 14 v) J (pc + 3) lv st) : AW l D cy sz own cc nL ret ini R mc ms Q cells slots G  I J pc lv (.int v :: .ref (sz + a) :: st) := aw_putI (ci := 10) (k := 14) (C := RX10) (T := TX10) (N := 62) (ty := .int) rfl inT10 tyX10 tyX10_ok nmX10 (by decide) rfl (by decide) rfl rfl rfl rfl rfl rfl hlink ha d kk
theorem pf_X10_15 {v : Int32} (hlink : Cond.fieldLink own idx RX10 "nest" "I" ∈ sw_T) (ha : a ∈ G.2.1 ∧ G.2.2.1 a = 10) (d : decode cc pc = .ok (.putfield idx, 3)) (kk : AW l D cy sz own cc nL ret ini R mc ms Q cells slots G  (sw_up I a 15 v) J (pc + 3) lv st) : AW l D cy sz own cc nL ret ini R mc ms Q cells slots G  I J pc lv (.int v :: .ref (sz + a) :: st) := aw_putI (ci := 10) (k := 15) (C := RX10) (T := TX10) (N := 62) (ty := .int) rfl inT10 tyX10 tyX10_ok nmX10 (by decide) rfl (by decide) rfl rfl rfl rfl rfl rfl hlink ha d kk
theorem pf_X10_19 {v : Int32} (hlink : Cond.fieldLink own idx RX10 "readMany" "I" ∈ sw_T) (ha : a ∈ G.2.1 ∧ G.2.2.1 a = 10) (d : decode cc pc = .ok (.putfield idx, 3)) (kk : AW l D cy sz own cc nL ret ini R mc ms Q cells slots G  (sw_up I a 19 v) J (pc + 3) lv st) : AW l D cy sz own cc nL ret ini R mc ms Q cells slots G  I J pc lv (.int v :: .ref (sz + a) :: st) := aw_putI (ci := 10) (k := 19) (C := RX10) (T := TX10) (N := 62) (ty := .int) rfl inT10 tyX10 tyX10_ok nmX10 (by decide) rfl (by decide) rfl rfl rfl rfl rfl rfl hlink ha d kk
theorem pf_X10_20 {v : Int32} (hlink : Cond.fieldLink own idx RX10 "readIn" "I" ∈ sw_T) (ha : a ∈ G.2.1 ∧ G.2.2.1 a = 10) (d : decode cc pc = .ok (.putfield idx, 3)) (kk : AW l D cy sz own cc nL ret ini R mc ms Q cells slots G  (sw_up I a 20 v) J (pc + 3) lv st) : AW l D cy sz own cc nL ret ini R mc ms Q cells slots G  I J pc lv (.int v :: .ref (sz + a) :: st) := aw_putI (ci := 10) (k := 20) (C := RX10) (T := TX10) (N := 62) (ty := .int) rfl inT10 tyX10 tyX10_ok nmX10 (by decide) rfl (by decide) rfl rfl rfl rfl rfl rfl hlink ha d kk
theorem pf_X10_23 {v : Int32} (hlink : Cond.fieldLink own idx RX10 "codeLong" "I" ∈ sw_T) (ha : a ∈ G.2.1 ∧ G.2.2.1 a = 10) (d : decode cc pc = .ok (.putfield idx, 3)) (kk : AW l D cy sz own cc nL ret ini R mc ms Q cells slots G  (sw_up I a 23 v) J (pc + 3) lv st) : AW l D cy sz own cc nL ret ini R mc ms Q cells slots G  I J pc lv (.int v :: .ref (sz + a) :: st) := aw_putI (ci := 10) (k := 23) (C := RX10) (T := TX10) (N := 62) (ty := .int) rfl inT10 tyX10 tyX10_ok nmX10 (by decide) rfl (by decide) rfl rfl rfl rfl rfl rfl hlink ha d kk
theorem pf_X10_24 {v : Int32} (hlink : Cond.fieldLink own idx RX10 "readLong" "I" ∈ sw_T) (ha : a ∈ G.2.1 ∧ G.2.2.1 a = 10) (d : decode cc pc = .ok (.putfield idx, 3)) (kk : AW l D cy sz own cc nL ret ini R mc ms Q cells slots G  (sw_up I a 24 v) J (pc + 3) lv st) : AW l D cy sz own cc nL ret ini R mc ms Q cells slots G  I J pc lv (.int v :: .ref (sz + a) :: st) := aw_putI (ci := 10) (k := 24) (C := RX10) (T := TX10) (N := 62) (ty := .int) rfl inT10 tyX10 tyX10_ok nmX10 (by decide) rfl (by decide) rfl rfl rfl rfl rfl rfl hlink ha d kk
theorem pf_X10_28 {v : Int32} (hlink : Cond.fieldLink own idx RX10 "askedIn" "I" ∈ sw_T) (ha : a ∈ G.2.1 ∧ G.2.2.1 a = 10) (d : decode cc pc = .ok (.putfield idx, 3)) (kk : AW l D cy sz own cc nL ret ini R mc ms Q cells slots G  (sw_up I a 28 v) J (pc + 3) lv st) : AW l D cy sz own cc nL ret ini R mc ms Q cells slots G  I J pc lv (.int v :: .ref (sz + a) :: st) := aw_putI (ci := 10) (k := 28) (C := RX10) (T := TX10) (N := 62) (ty := .int) rfl inT10 tyX10 tyX10_ok nmX10 (by decide) rfl (by decide) rfl rfl rfl rfl rfl rfl hlink ha d kk
theorem pf_X10_29 {v : Int32} (hlink : Cond.fieldLink own idx RX10 "askedLift" "I" ∈ sw_T) (ha : a ∈ G.2.1 ∧ G.2.2.1 a = 10) (d : decode cc pc = .ok (.putfield idx, 3)) (kk : AW l D cy sz own cc nL ret ini R mc ms Q cells slots G  (sw_up I a 29 v) J (pc + 3) lv st) : AW l D cy sz own cc nL ret ini R mc ms Q cells slots G  I J pc lv (.int v :: .ref (sz + a) :: st) := aw_putI (ci := 10) (k := 29) (C := RX10) (T := TX10) (N := 62) (ty := .int) rfl inT10 tyX10 tyX10_ok nmX10 (by decide) rfl (by decide) rfl rfl rfl rfl rfl rfl hlink ha d kk
theorem pf_X10_30 {v : Int32} (hlink : Cond.fieldLink own idx RX10 "askedRides" "I" ∈ sw_T) (ha : a ∈ G.2.1 ∧ G.2.2.1 a = 10) (d : decode cc pc = .ok (.putfield idx, 3)) (kk : AW l D cy sz own cc nL ret ini R mc ms Q cells slots G  (sw_up I a 30 v) J (pc + 3) lv st) : AW l D cy sz own cc nL ret ini R mc ms Q cells slots G  I J pc lv (.int v :: .ref (sz + a) :: st) := aw_putI (ci := 10) (k := 30) (C := RX10) (T := TX10) (N := 62) (ty := .int) rfl inT10 tyX10 tyX10_ok nmX10 (by decide) rfl (by decide) rfl rfl rfl rfl rfl rfl hlink ha d kk
theorem pf_X10_31 {v : Int32} (hlink : Cond.fieldLink own idx RX10 "random" "I" ∈ sw_T) (ha : a ∈ G.2.1 ∧ G.2.2.1 a = 10) (d : decode cc pc = .ok (.putfield idx, 3)) (kk : AW l D cy sz own cc nL ret ini R mc ms Q cells slots G  (sw_up I a 31 v) J (pc + 3) lv st) : AW l D cy sz own cc nL ret ini R mc ms Q cells slots G  I J pc lv (.int v :: .ref (sz + a) :: st) := aw_putI (ci := 10) (k := 31) (C := RX10) (T := TX10) (N := 62) (ty := .int) rfl inT10 tyX10 tyX10_ok nmX10 (by decide) rfl (by decide) rfl rfl rfl rfl rfl rfl hlink ha d kk
theorem pf_X10_32 {v : Int32} (hlink : Cond.fieldLink own idx RX10 "undos" "I" ∈ sw_T) (ha : a ∈ G.2.1 ∧ G.2.2.1 a = 10) (d : decode cc pc = .ok (.putfield idx, 3)) (kk : AW l D cy sz own cc nL ret ini R mc ms Q cells slots G  (sw_up I a 32 v) J (pc + 3) lv st) : AW l D cy sz own cc nL ret ini R mc ms Q cells slots G  I J pc lv (.int v :: .ref (sz + a) :: st) := aw_putI (ci := 10) (k := 32) (C := RX10) (T := TX10) (N := 62) (ty := .int) rfl inT10 tyX10 tyX10_ok nmX10 (by decide) rfl (by decide) rfl rfl rfl rfl rfl rfl hlink ha d kk
theorem pf_X10_38 {v : Int32} (hlink : Cond.fieldLink own idx RX10 "acts" "I" ∈ sw_T) (ha : a ∈ G.2.1 ∧ G.2.2.1 a = 10) (d : decode cc pc = .ok (.putfield idx, 3)) (kk : AW l D cy sz own cc nL ret ini R mc ms Q cells slots G  (sw_up I a 38 v) J (pc + 3) lv st) : AW l D cy sz own cc nL ret ini R mc ms Q cells slots G  I J pc lv (.int v :: .ref (sz + a) :: st) := aw_putI (ci := 10) (k := 38) (C := RX10) (T := TX10) (N := 62) (ty := .int) rfl inT10 tyX10 tyX10_ok nmX10 (by decide) rfl (by decide) rfl rfl rfl rfl rfl rfl hlink ha d kk
theorem pf_X10_39 {v : Int32} (hlink : Cond.fieldLink own idx RX10 "didSome" "I" ∈ sw_T) (ha : a ∈ G.2.1 ∧ G.2.2.1 a = 10) (d : decode cc pc = .ok (.putfield idx, 3)) (kk : AW l D cy sz own cc nL ret ini R mc ms Q cells slots G  (sw_up I a 39 v) J (pc + 3) lv st) : AW l D cy sz own cc nL ret ini R mc ms Q cells slots G  I J pc lv (.int v :: .ref (sz + a) :: st) := aw_putI (ci := 10) (k := 39) (C := RX10) (T := TX10) (N := 62) (ty := .int) rfl inT10 tyX10 tyX10_ok nmX10 (by decide) rfl (by decide) rfl rfl rfl rfl rfl rfl hlink ha d kk
theorem pf_X10_40 {v : Int32} (hlink : Cond.fieldLink own idx RX10 "rodeNow" "I" ∈ sw_T) (ha : a ∈ G.2.1 ∧ G.2.2.1 a = 10) (d : decode cc pc = .ok (.putfield idx, 3)) (kk : AW l D cy sz own cc nL ret ini R mc ms Q cells slots G  (sw_up I a 40 v) J (pc + 3) lv st) : AW l D cy sz own cc nL ret ini R mc ms Q cells slots G  I J pc lv (.int v :: .ref (sz + a) :: st) := aw_putI (ci := 10) (k := 40) (C := RX10) (T := TX10) (N := 62) (ty := .int) rfl inT10 tyX10 tyX10_ok nmX10 (by decide) rfl (by decide) rfl rfl rfl rfl rfl rfl hlink ha d kk
theorem pf_X10_42 {v : Int32} (hlink : Cond.fieldLink own idx RX10 "bestFar" "I" ∈ sw_T) (ha : a ∈ G.2.1 ∧ G.2.2.1 a = 10) (d : decode cc pc = .ok (.putfield idx, 3)) (kk : AW l D cy sz own cc nL ret ini R mc ms Q cells slots G  (sw_up I a 42 v) J (pc + 3) lv st) : AW l D cy sz own cc nL ret ini R mc ms Q cells slots G  I J pc lv (.int v :: .ref (sz + a) :: st) := aw_putI (ci := 10) (k := 42) (C := RX10) (T := TX10) (N := 62) (ty := .int) rfl inT10 tyX10 tyX10_ok nmX10 (by decide) rfl (by decide) rfl rfl rfl rfl rfl rfl hlink ha d kk
theorem pf_X10_48 {v : Int32} (hlink : Cond.fieldLink own idx RX10 "foundMany" "I" ∈ sw_T) (ha : a ∈ G.2.1 ∧ G.2.2.1 a = 10) (d : decode cc pc = .ok (.putfield idx, 3)) (kk : AW l D cy sz own cc nL ret ini R mc ms Q cells slots G  (sw_up I a 48 v) J (pc + 3) lv st) : AW l D cy sz own cc nL ret ini R mc ms Q cells slots G  I J pc lv (.int v :: .ref (sz + a) :: st) := aw_putI (ci := 10) (k := 48) (C := RX10) (T := TX10) (N := 62) (ty := .int) rfl inT10 tyX10 tyX10_ok nmX10 (by decide) rfl (by decide) rfl rfl rfl rfl rfl rfl hlink ha d kk
theorem pf_X10_49 {v : Int32} (hv : v = 0 ∨ v = 1) (hlink : Cond.fieldLink own idx RX10 "isFull" "Z" ∈ sw_T) (ha : a ∈ G.2.1 ∧ G.2.2.1 a = 10) (d : decode cc pc = .ok (.putfield idx, 3)) (kk : AW l D cy sz own cc nL ret ini R mc ms Q cells slots G  (sw_up I a 49 v) J (pc + 3) lv st) : AW l D cy sz own cc nL ret ini R mc ms Q cells slots G  I J pc lv (.int v :: .ref (sz + a) :: st) := aw_putI (ci := 10) (k := 49) (C := RX10) (T := TX10) (N := 62) (ty := .boolean) rfl inT10 tyX10 tyX10_ok nmX10 (by decide) rfl (by decide) rfl rfl rfl rfl (sw_bool hv).1 (sw_bool hv).2 hlink ha d kk
theorem pf_X10_50 {v : Int32} (hlink : Cond.fieldLink own idx RX10 "aim" "I" ∈ sw_T) (ha : a ∈ G.2.1 ∧ G.2.2.1 a = 10) (d : decode cc pc = .ok (.putfield idx, 3)) (kk : AW l D cy sz own cc nL ret ini R mc ms Q cells slots G  (sw_up I a 50 v) J (pc + 3) lv st) : AW l D cy sz own cc nL ret ini R mc ms Q cells slots G  I J pc lv (.int v :: .ref (sz + a) :: st) := aw_putI (ci := 10) (k := 50) (C := RX10) (T := TX10) (N := 62) (ty := .int) rfl inT10 tyX10 tyX10_ok nmX10 (by decide) rfl (by decide) rfl rfl rfl rfl rfl rfl hlink ha d kk
theorem pf_X10_51 {v : Int32} (hlink : Cond.fieldLink own idx RX10 "aimWho" "I" ∈ sw_T) (ha : a ∈ G.2.1 ∧ G.2.2.1 a = 10) (d : decode cc pc = .ok (.putfield idx, 3)) (kk : AW l D cy sz own cc nL ret ini R mc ms Q cells slots G  (sw_up I a 51 v) J (pc + 3) lv st) : AW l D cy sz own cc nL ret ini R mc ms Q cells slots G  I J pc lv (.int v :: .ref (sz + a) :: st) := aw_putI (ci := 10) (k := 51) (C := RX10) (T := TX10) (N := 62) (ty := .int) rfl inT10 tyX10 tyX10_ok nmX10 (by decide) rfl (by decide) rfl rfl rfl rfl rfl rfl hlink ha d kk
theorem pf_X10_52 {v : Int32} (hlink : Cond.fieldLink own idx RX10 "aimFloor" "I" ∈ sw_T) (ha : a ∈ G.2.1 ∧ G.2.2.1 a = 10) (d : decode cc pc = .ok (.putfield idx, 3)) (kk : AW l D cy sz own cc nL ret ini R mc ms Q cells slots G  (sw_up I a 52 v) J (pc + 3) lv st) : AW l D cy sz own cc nL ret ini R mc ms Q cells slots G  I J pc lv (.int v :: .ref (sz + a) :: st) := aw_putI (ci := 10) (k := 52) (C := RX10) (T := TX10) (N := 62) (ty := .int) rfl inT10 tyX10 tyX10_ok nmX10 (by decide) rfl (by decide) rfl rfl rfl rfl rfl rfl hlink ha d kk
theorem pf_X10_54 {v : Int32} (hlink : Cond.fieldLink own idx RX10 "seens" "I" ∈ sw_T) (ha : a ∈ G.2.1 ∧ G.2.2.1 a = 10) (d : decode cc pc = .ok (.putfield idx, 3)) (kk : AW l D cy sz own cc nL ret ini R mc ms Q cells slots G  (sw_up I a 54 v) J (pc + 3) lv st) : AW l D cy sz own cc nL ret ini R mc ms Q cells slots G  I J pc lv (.int v :: .ref (sz + a) :: st) := aw_putI (ci := 10) (k := 54) (C := RX10) (T := TX10) (N := 62) (ty := .int) rfl inT10 tyX10 tyX10_ok nmX10 (by decide) rfl (by decide) rfl rfl rfl rfl rfl rfl hlink ha d kk
theorem pf_X2_3 {v : Int32} (hlink : Cond.fieldLink own idx RX2 "size" "I" ∈ sw_T) (ha : a ∈ G.2.1 ∧ G.2.2.1 a = 2) (d : decode cc pc = .ok (.putfield idx, 3)) (kk : AW l D cy sz own cc nL ret ini R mc ms Q cells slots G  (sw_up I a 3 v) J (pc + 3) lv st) : AW l D cy sz own cc nL ret ini R mc ms Q cells slots G  I J pc lv (.int v :: .ref (sz + a) :: st) := aw_putI (ci := 2) (k := 3) (C := RX2) (T := TX2) (N := 6) (ty := .int) rfl inT2 tyX2 tyX2_ok nmX2 (by decide) rfl (by decide) rfl rfl rfl rfl rfl rfl hlink ha d kk
theorem pf_X2_4 {v : Int32} (hlink : Cond.fieldLink own idx RX2 "waitingCount" "I" ∈ sw_T) (ha : a ∈ G.2.1 ∧ G.2.2.1 a = 2) (d : decode cc pc = .ok (.putfield idx, 3)) (kk : AW l D cy sz own cc nL ret ini R mc ms Q cells slots G  (sw_up I a 4 v) J (pc + 3) lv st) : AW l D cy sz own cc nL ret ini R mc ms Q cells slots G  I J pc lv (.int v :: .ref (sz + a) :: st) := aw_putI (ci := 2) (k := 4) (C := RX2) (T := TX2) (N := 6) (ty := .int) rfl inT2 tyX2 tyX2_ok nmX2 (by decide) rfl (by decide) rfl rfl rfl rfl rfl rfl hlink ha d kk
theorem pf_X2_5 {v : Int32} (hv : v = 0 ∨ v = 1) (hlink : Cond.fieldLink own idx RX2 "asksRides" "Z" ∈ sw_T) (ha : a ∈ G.2.1 ∧ G.2.2.1 a = 2) (d : decode cc pc = .ok (.putfield idx, 3)) (kk : AW l D cy sz own cc nL ret ini R mc ms Q cells slots G  (sw_up I a 5 v) J (pc + 3) lv st) : AW l D cy sz own cc nL ret ini R mc ms Q cells slots G  I J pc lv (.int v :: .ref (sz + a) :: st) := aw_putI (ci := 2) (k := 5) (C := RX2) (T := TX2) (N := 6) (ty := .boolean) rfl inT2 tyX2 tyX2_ok nmX2 (by decide) rfl (by decide) rfl rfl rfl rfl (sw_bool hv).1 (sw_bool hv).2 hlink ha d kk
theorem pf_X3_3 {v : Int32} (hlink : Cond.fieldLink own idx RX3 "inside" "I" ∈ sw_T) (ha : a ∈ G.2.1 ∧ G.2.2.1 a = 3) (d : decode cc pc = .ok (.putfield idx, 3)) (kk : AW l D cy sz own cc nL ret ini R mc ms Q cells slots G  (sw_up I a 3 v) J (pc + 3) lv st) : AW l D cy sz own cc nL ret ini R mc ms Q cells slots G  I J pc lv (.int v :: .ref (sz + a) :: st) := aw_putI (ci := 3) (k := 3) (C := RX3) (T := TX3) (N := 6) (ty := .int) rfl inT3 tyX3 tyX3_ok nmX3 (by decide) rfl (by decide) rfl rfl rfl rfl rfl rfl hlink ha d kk
theorem pf_X3_4 {v : Int32} (hlink : Cond.fieldLink own idx RX3 "lift" "I" ∈ sw_T) (ha : a ∈ G.2.1 ∧ G.2.2.1 a = 3) (d : decode cc pc = .ok (.putfield idx, 3)) (kk : AW l D cy sz own cc nL ret ini R mc ms Q cells slots G  (sw_up I a 4 v) J (pc + 3) lv st) : AW l D cy sz own cc nL ret ini R mc ms Q cells slots G  I J pc lv (.int v :: .ref (sz + a) :: st) := aw_putI (ci := 3) (k := 4) (C := RX3) (T := TX3) (N := 6) (ty := .int) rfl inT3 tyX3 tyX3_ok nmX3 (by decide) rfl (by decide) rfl rfl rfl rfl rfl rfl hlink ha d kk
theorem pf_X3_5 {v : Int32} (hlink : Cond.fieldLink own idx RX3 "rides" "I" ∈ sw_T) (ha : a ∈ G.2.1 ∧ G.2.2.1 a = 3) (d : decode cc pc = .ok (.putfield idx, 3)) (kk : AW l D cy sz own cc nL ret ini R mc ms Q cells slots G  (sw_up I a 5 v) J (pc + 3) lv st) : AW l D cy sz own cc nL ret ini R mc ms Q cells slots G  I J pc lv (.int v :: .ref (sz + a) :: st) := aw_putI (ci := 3) (k := 5) (C := RX3) (T := TX3) (N := 6) (ty := .int) rfl inT3 tyX3 tyX3_ok nmX3 (by decide) rfl (by decide) rfl rfl rfl rfl rfl rfl hlink ha d kk
theorem pf_X4_1 {v : Int32} (hlink : Cond.fieldLink own idx RX4 "next" "I" ∈ sw_T) (ha : a ∈ G.2.1 ∧ G.2.2.1 a = 4) (d : decode cc pc = .ok (.putfield idx, 3)) (kk : AW l D cy sz own cc nL ret ini R mc ms Q cells slots G  (sw_up I a 1 v) J (pc + 3) lv st) : AW l D cy sz own cc nL ret ini R mc ms Q cells slots G  I J pc lv (.int v :: .ref (sz + a) :: st) := aw_putI (ci := 4) (k := 1) (C := RX4) (T := TX4) (N := 3) (ty := .int) rfl inT4 tyX4 tyX4_ok nmX4 (by decide) rfl (by decide) rfl rfl rfl rfl rfl rfl hlink ha d kk
theorem pf_X4_2 {v : Int32} (hlink : Cond.fieldLink own idx RX4 "size" "I" ∈ sw_T) (ha : a ∈ G.2.1 ∧ G.2.2.1 a = 4) (d : decode cc pc = .ok (.putfield idx, 3)) (kk : AW l D cy sz own cc nL ret ini R mc ms Q cells slots G  (sw_up I a 2 v) J (pc + 3) lv st) : AW l D cy sz own cc nL ret ini R mc ms Q cells slots G  I J pc lv (.int v :: .ref (sz + a) :: st) := aw_putI (ci := 4) (k := 2) (C := RX4) (T := TX4) (N := 3) (ty := .int) rfl inT4 tyX4 tyX4_ok nmX4 (by decide) rfl (by decide) rfl rfl rfl rfl rfl rfl hlink ha d kk
theorem pf_X5_2 {v : Int32} (hlink : Cond.fieldLink own idx RX5 "in" "I" ∈ sw_T) (ha : a ∈ G.2.1 ∧ G.2.2.1 a = 5) (d : decode cc pc = .ok (.putfield idx, 3)) (kk : AW l D cy sz own cc nL ret ini R mc ms Q cells slots G  (sw_up I a 2 v) J (pc + 3) lv st) : AW l D cy sz own cc nL ret ini R mc ms Q cells slots G  I J pc lv (.int v :: .ref (sz + a) :: st) := aw_putI (ci := 5) (k := 2) (C := RX5) (T := TX5) (N := 5) (ty := .int) rfl inT5 tyX5 tyX5_ok nmX5 (by decide) rfl (by decide) rfl rfl rfl rfl rfl rfl hlink ha d kk
theorem pf_X5_3 {v : Int32} (hlink : Cond.fieldLink own idx RX5 "lift" "I" ∈ sw_T) (ha : a ∈ G.2.1 ∧ G.2.2.1 a = 5) (d : decode cc pc = .ok (.putfield idx, 3)) (kk : AW l D cy sz own cc nL ret ini R mc ms Q cells slots G  (sw_up I a 3 v) J (pc + 3) lv st) : AW l D cy sz own cc nL ret ini R mc ms Q cells slots G  I J pc lv (.int v :: .ref (sz + a) :: st) := aw_putI (ci := 5) (k := 3) (C := RX5) (T := TX5) (N := 5) (ty := .int) rfl inT5 tyX5 tyX5_ok nmX5 (by decide) rfl (by decide) rfl rfl rfl rfl rfl rfl hlink ha d kk
theorem pf_X5_4 {v : Int32} (hlink : Cond.fieldLink own idx RX5 "rides" "I" ∈ sw_T) (ha : a ∈ G.2.1 ∧ G.2.2.1 a = 5) (d : decode cc pc = .ok (.putfield idx, 3)) (kk : AW l D cy sz own cc nL ret ini R mc ms Q cells slots G  (sw_up I a 4 v) J (pc + 3) lv st) : AW l D cy sz own cc nL ret ini R mc ms Q cells slots G  I J pc lv (.int v :: .ref (sz + a) :: st) := aw_putI (ci := 5) (k := 4) (C := RX5) (T := TX5) (N := 5) (ty := .int) rfl inT5 tyX5 tyX5_ok nmX5 (by decide) rfl (by decide) rfl rfl rfl rfl rfl rfl hlink ha d kk
theorem pf_X6_4 {v : Int32} (hlink : Cond.fieldLink own idx RX6 "found" "I" ∈ sw_T) (ha : a ∈ G.2.1 ∧ G.2.2.1 a = 6) (d : decode cc pc = .ok (.putfield idx, 3)) (kk : AW l D cy sz own cc nL ret ini R mc ms Q cells slots G  (sw_up I a 4 v) J (pc + 3) lv st) : AW l D cy sz own cc nL ret ini R mc ms Q cells slots G  I J pc lv (.int v :: .ref (sz + a) :: st) := aw_putI (ci := 6) (k := 4) (C := RX6) (T := TX6) (N := 10) (ty := .int) rfl inT6 tyX6 tyX6_ok nmX6 (by decide) rfl (by decide) rfl rfl rfl rfl rfl rfl hlink ha d kk
theorem pf_X6_5 {v : Int32} (hlink : Cond.fieldLink own idx RX6 "rides" "I" ∈ sw_T) (ha : a ∈ G.2.1 ∧ G.2.2.1 a = 6) (d : decode cc pc = .ok (.putfield idx, 3)) (kk : AW l D cy sz own cc nL ret ini R mc ms Q cells slots G  (sw_up I a 5 v) J (pc + 3) lv st) : AW l D cy sz own cc nL ret ini R mc ms Q cells slots G  I J pc lv (.int v :: .ref (sz + a) :: st) := aw_putI (ci := 6) (k := 5) (C := RX6) (T := TX6) (N := 10) (ty := .int) rfl inT6 tyX6 tyX6_ok nmX6 (by decide) rfl (by decide) rfl rfl rfl rfl rfl rfl hlink ha d kk
theorem pf_X6_6 {v : Int32} (hv : v = 0 ∨ v = 1) (hlink : Cond.fieldLink own idx RX6 "more" "Z" ∈ sw_T) (ha : a ∈ G.2.1 ∧ G.2.2.1 a = 6) (d : decode cc pc = .ok (.putfield idx, 3)) (kk : AW l D cy sz own cc nL ret ini R mc ms Q cells slots G  (sw_up I a 6 v) J (pc + 3) lv st) : AW l D cy sz own cc nL ret ini R mc ms Q cells slots G  I J pc lv (.int v :: .ref (sz + a) :: st) := aw_putI (ci := 6) (k := 6) (C := RX6) (T := TX6) (N := 10) (ty := .boolean) rfl inT6 tyX6 tyX6_ok nmX6 (by decide) rfl (by decide) rfl rfl rfl rfl (sw_bool hv).1 (sw_bool hv).2 hlink ha d kk
theorem pf_X6_7 {v : Int32} (hlink : Cond.fieldLink own idx RX6 "wanted" "I" ∈ sw_T) (ha : a ∈ G.2.1 ∧ G.2.2.1 a = 6) (d : decode cc pc = .ok (.putfield idx, 3)) (kk : AW l D cy sz own cc nL ret ini R mc ms Q cells slots G  (sw_up I a 7 v) J (pc + 3) lv st) : AW l D cy sz own cc nL ret ini R mc ms Q cells slots G  I J pc lv (.int v :: .ref (sz + a) :: st) := aw_putI (ci := 6) (k := 7) (C := RX6) (T := TX6) (N := 10) (ty := .int) rfl inT6 tyX6 tyX6_ok nmX6 (by decide) rfl (by decide) rfl rfl rfl rfl rfl rfl hlink ha d kk
theorem pf_X6_8 {v : Int32} (hlink : Cond.fieldLink own idx RX6 "wantedThose" "I" ∈ sw_T) (ha : a ∈ G.2.1 ∧ G.2.2.1 a = 6) (d : decode cc pc = .ok (.putfield idx, 3)) (kk : AW l D cy sz own cc nL ret ini R mc ms Q cells slots G  (sw_up I a 8 v) J (pc + 3) lv st) : AW l D cy sz own cc nL ret ini R mc ms Q cells slots G  I J pc lv (.int v :: .ref (sz + a) :: st) := aw_putI (ci := 6) (k := 8) (C := RX6) (T := TX6) (N := 10) (ty := .int) rfl inT6 tyX6 tyX6_ok nmX6 (by decide) rfl (by decide) rfl rfl rfl rfl rfl rfl hlink ha d kk
theorem pf_X6_9 {v : Int32} (hlink : Cond.fieldLink own idx RX6 "wantedFloor" "I" ∈ sw_T) (ha : a ∈ G.2.1 ∧ G.2.2.1 a = 6) (d : decode cc pc = .ok (.putfield idx, 3)) (kk : AW l D cy sz own cc nL ret ini R mc ms Q cells slots G  (sw_up I a 9 v) J (pc + 3) lv st) : AW l D cy sz own cc nL ret ini R mc ms Q cells slots G  I J pc lv (.int v :: .ref (sz + a) :: st) := aw_putI (ci := 6) (k := 9) (C := RX6) (T := TX6) (N := 10) (ty := .int) rfl inT6 tyX6 tyX6_ok nmX6 (by decide) rfl (by decide) rfl rfl rfl rfl rfl rfl hlink ha d kk
theorem pf_X7_4 {v : Int32} (hlink : Cond.fieldLink own idx RX7 "size" "I" ∈ sw_T) (ha : a ∈ G.2.1 ∧ G.2.2.1 a = 7) (d : decode cc pc = .ok (.putfield idx, 3)) (kk : AW l D cy sz own cc nL ret ini R mc ms Q cells slots G  (sw_up I a 4 v) J (pc + 3) lv st) : AW l D cy sz own cc nL ret ini R mc ms Q cells slots G  I J pc lv (.int v :: .ref (sz + a) :: st) := aw_putI (ci := 7) (k := 4) (C := RX7) (T := TX7) (N := 5) (ty := .int) rfl inT7 tyX7 tyX7_ok nmX7 (by decide) rfl (by decide) rfl rfl rfl rfl rfl rfl hlink ha d kk
theorem pf_X8_1 {v : Int32} (hlink : Cond.fieldLink own idx RX8 "size" "I" ∈ sw_T) (ha : a ∈ G.2.1 ∧ G.2.2.1 a = 8) (d : decode cc pc = .ok (.putfield idx, 3)) (kk : AW l D cy sz own cc nL ret ini R mc ms Q cells slots G  (sw_up I a 1 v) J (pc + 3) lv st) : AW l D cy sz own cc nL ret ini R mc ms Q cells slots G  I J pc lv (.int v :: .ref (sz + a) :: st) := aw_putI (ci := 8) (k := 1) (C := RX8) (T := TX8) (N := 2) (ty := .int) rfl inT8 tyX8 tyX8_ok nmX8 (by decide) rfl (by decide) rfl rfl rfl rfl rfl rfl hlink ha d kk
theorem pf_X9_10 {v : Int32} (hlink : Cond.fieldLink own idx RX9 "toldCount" "I" ∈ sw_T) (ha : a ∈ G.2.1 ∧ G.2.2.1 a = 9) (d : decode cc pc = .ok (.putfield idx, 3)) (kk : AW l D cy sz own cc nL ret ini R mc ms Q cells slots G  (sw_up I a 10 v) J (pc + 3) lv st) : AW l D cy sz own cc nL ret ini R mc ms Q cells slots G  I J pc lv (.int v :: .ref (sz + a) :: st) := aw_putI (ci := 9) (k := 10) (C := RX9) (T := TX9) (N := 13) (ty := .int) rfl inT9 tyX9 tyX9_ok nmX9 (by decide) rfl (by decide) rfl rfl rfl rfl rfl rfl hlink ha d kk
end FLD
theorem fl_X0_15 : Cond.fieldLink RX0 15 RX0 "rides" "I" ∈ sw_T := sw_mem 332 (by decide +kernel) rfl
theorem fl_X0_18 : Cond.fieldLink RX0 18 RX0 "deeds" "I" ∈ sw_T := sw_mem 334 (by decide +kernel) rfl
theorem fl_X0_21 : Cond.fieldLink RX0 21 RX8 "size" "I" ∈ sw_T := sw_mem 126 (by decide +kernel) rfl
theorem fl_X0_77 : Cond.fieldLink RX0 77 RX3 "inside" "I" ∈ sw_T := sw_mem 254 (by decide +kernel) rfl
theorem fl_X0_86 : Cond.fieldLink RX0 86 RX3 "wish" "[I" ∈ sw_T := sw_mem 248 (by decide +kernel) rfl
theorem fl_X0_9 : Cond.fieldLink RX0 9 RX0 "acts" "I" ∈ sw_T := sw_mem 330 (by decide +kernel) rfl
theorem fl_X10_102 : Cond.fieldLink RX10 102 RX10 "readHome" "[I" ∈ sw_T := sw_mem 1611 (by decide +kernel) rfl
theorem fl_X10_11 : Cond.fieldLink RX10 11 RX10 "row" "[J" ∈ sw_T := sw_mem 1597 (by decide +kernel) rfl
theorem fl_X10_111 : Cond.fieldLink RX10 111 RX10 "readWish" "[I" ∈ sw_T := sw_mem 1612 (by decide +kernel) rfl
theorem fl_X10_114 : Cond.fieldLink RX10 114 RX10 "readPlace" "[I" ∈ sw_T := sw_mem 1613 (by decide +kernel) rfl
theorem fl_X10_117 : Cond.fieldLink RX10 117 RX10 "readIn" "I" ∈ sw_T := sw_mem 1615 (by decide +kernel) rfl
theorem fl_X10_135 : Cond.fieldLink RX10 135 RX10 "home" "[I" ∈ sw_T := sw_mem 1602 (by decide +kernel) rfl
theorem fl_X10_138 : Cond.fieldLink RX10 138 RX10 "truth" "[I" ∈ sw_T := sw_mem 1603 (by decide +kernel) rfl
theorem fl_X10_141 : Cond.fieldLink RX10 141 RX10 "readCode" "[I" ∈ sw_T := sw_mem 1617 (by decide +kernel) rfl
theorem fl_X10_144 : Cond.fieldLink RX10 144 RX10 "readLong" "I" ∈ sw_T := sw_mem 1619 (by decide +kernel) rfl
theorem fl_X10_15 : Cond.fieldLink RX10 15 RX10 "rows" "I" ∈ sw_T := sw_mem 1596 (by decide +kernel) rfl
theorem fl_X10_169 : Cond.fieldLink RX10 169 RX10 "codeLong" "I" ∈ sw_T := sw_mem 1618 (by decide +kernel) rfl
theorem fl_X10_172 : Cond.fieldLink RX10 172 RX10 "code" "[I" ∈ sw_T := sw_mem 1616 (by decide +kernel) rfl
theorem fl_X10_180 : Cond.fieldLink RX10 180 RX10 "askedIn" "I" ∈ sw_T := sw_mem 1623 (by decide +kernel) rfl
theorem fl_X10_183 : Cond.fieldLink RX10 183 RX10 "askedLift" "I" ∈ sw_T := sw_mem 1624 (by decide +kernel) rfl
theorem fl_X10_186 : Cond.fieldLink RX10 186 RX10 "askedRides" "I" ∈ sw_T := sw_mem 1625 (by decide +kernel) rfl
theorem fl_X10_189 : Cond.fieldLink RX10 189 RX10 "wished" "[I" ∈ sw_T := sw_mem 1621 (by decide +kernel) rfl
theorem fl_X10_192 : Cond.fieldLink RX10 192 RX10 "standing" "[I" ∈ sw_T := sw_mem 1622 (by decide +kernel) rfl
theorem fl_X10_202 : Cond.fieldLink RX10 202 RX10 "stack" "[I" ∈ sw_T := sw_mem 1620 (by decide +kernel) rfl
theorem fl_X10_22 : Cond.fieldLink RX10 22 RX10 "floors" "I" ∈ sw_T := sw_mem 1598 (by decide +kernel) rfl
theorem fl_X10_238 : Cond.fieldLink RX10 238 RX10 "random" "I" ∈ sw_T := sw_mem 1626 (by decide +kernel) rfl
theorem fl_X10_245 : Cond.fieldLink RX10 245 RX10 "undone" "[I" ∈ sw_T := sw_mem 1628 (by decide +kernel) rfl
theorem fl_X10_268 : Cond.fieldLink RX10 268 RX10 "actSign" "[I" ∈ sw_T := sw_mem 1629 (by decide +kernel) rfl
theorem fl_X10_271 : Cond.fieldLink RX10 271 RX10 "acts" "I" ∈ sw_T := sw_mem 1633 (by decide +kernel) rfl
theorem fl_X10_274 : Cond.fieldLink RX10 274 RX10 "actMany" "[I" ∈ sw_T := sw_mem 1632 (by decide +kernel) rfl
theorem fl_X10_277 : Cond.fieldLink RX10 277 RX10 "actBits" "[I" ∈ sw_T := sw_mem 1630 (by decide +kernel) rfl
theorem fl_X10_280 : Cond.fieldLink RX10 280 RX10 "actWish" "[I" ∈ sw_T := sw_mem 1631 (by decide +kernel) rfl
theorem fl_X10_283 : Cond.fieldLink RX10 283 RX10 "rodeNow" "I" ∈ sw_T := sw_mem 1635 (by decide +kernel) rfl
theorem fl_X10_286 : Cond.fieldLink RX10 286 RX10 "didSome" "I" ∈ sw_T := sw_mem 1634 (by decide +kernel) rfl
theorem fl_X10_29 : Cond.fieldLink RX10 29 RX10 "riders" "I" ∈ sw_T := sw_mem 1599 (by decide +kernel) rfl
theorem fl_X10_299 : Cond.fieldLink RX10 299 RX10 "ways" "[I" ∈ sw_T := sw_mem 1636 (by decide +kernel) rfl
theorem fl_X10_3 : Cond.fieldLink RX10 3 RX10 "thrown" "I" ∈ sw_T := sw_mem 1595 (by decide +kernel) rfl
theorem fl_X10_305 : Cond.fieldLink RX10 305 RX10 "bestFar" "I" ∈ sw_T := sw_mem 1637 (by decide +kernel) rfl
theorem fl_X10_313 : Cond.fieldLink RX10 313 RX10 "next" "[I" ∈ sw_T := sw_mem 1605 (by decide +kernel) rfl
theorem fl_X10_32 : Cond.fieldLink RX10 32 RX10 "taped" "I" ∈ sw_T := sw_mem 1607 (by decide +kernel) rfl
theorem fl_X10_333 : Cond.fieldLink RX10 333 RX10 "found" "[J" ∈ sw_T := sw_mem 1638 (by decide +kernel) rfl
theorem fl_X10_348 : Cond.fieldLink RX10 348 RX10 "slots" "[I" ∈ sw_T := sw_mem 1642 (by decide +kernel) rfl
theorem fl_X10_35 : Cond.fieldLink RX10 35 RX10 "tape" "[I" ∈ sw_T := sw_mem 1606 (by decide +kernel) rfl
theorem fl_X10_359 : Cond.fieldLink RX10 359 RX10 "foundMany" "I" ∈ sw_T := sw_mem 1643 (by decide +kernel) rfl
theorem fl_X10_362 : Cond.fieldLink RX10 362 RX10 "isFull" "Z" ∈ sw_T := sw_mem 1644 (by decide +kernel) rfl
theorem fl_X10_366 : Cond.fieldLink RX10 366 RX10 "from" "[I" ∈ sw_T := sw_mem 1639 (by decide +kernel) rfl
theorem fl_X10_369 : Cond.fieldLink RX10 369 RX10 "by" "[I" ∈ sw_T := sw_mem 1640 (by decide +kernel) rfl
theorem fl_X10_372 : Cond.fieldLink RX10 372 RX10 "far" "[I" ∈ sw_T := sw_mem 1641 (by decide +kernel) rfl
theorem fl_X10_382 : Cond.fieldLink RX10 382 RX10 "aim" "I" ∈ sw_T := sw_mem 1645 (by decide +kernel) rfl
theorem fl_X10_385 : Cond.fieldLink RX10 385 RX10 "aimFloor" "I" ∈ sw_T := sw_mem 1647 (by decide +kernel) rfl
theorem fl_X10_388 : Cond.fieldLink RX10 388 RX10 "aimWho" "I" ∈ sw_T := sw_mem 1646 (by decide +kernel) rfl
theorem fl_X10_39 : Cond.fieldLink RX10 39 RX10 "at" "I" ∈ sw_T := sw_mem 1608 (by decide +kernel) rfl
theorem fl_X10_403 : Cond.fieldLink RX10 403 RX10 "way" "[I" ∈ sw_T := sw_mem 1648 (by decide +kernel) rfl
theorem fl_X10_418 : Cond.fieldLink RX10 418 RX10 "seenFrom" "[I" ∈ sw_T := sw_mem 1650 (by decide +kernel) rfl
theorem fl_X10_42 : Cond.fieldLink RX10 42 RX10 "nest" "I" ∈ sw_T := sw_mem 1610 (by decide +kernel) rfl
theorem fl_X10_421 : Cond.fieldLink RX10 421 RX10 "seenWho" "[I" ∈ sw_T := sw_mem 1651 (by decide +kernel) rfl
theorem fl_X10_424 : Cond.fieldLink RX10 424 RX10 "seenTo" "[I" ∈ sw_T := sw_mem 1652 (by decide +kernel) rfl
theorem fl_X10_439 : Cond.fieldLink RX10 439 RX10 "chance" "[J" ∈ sw_T := sw_mem 1653 (by decide +kernel) rfl
theorem fl_X10_458 : Cond.fieldLink RX10 458 RX10 "isKept" "[Z" ∈ sw_T := sw_mem 1654 (by decide +kernel) rfl
theorem fl_X10_462 : Cond.fieldLink RX10 462 RX10 "keptChanges" "[I" ∈ sw_T := sw_mem 1655 (by decide +kernel) rfl
theorem fl_X10_465 : Cond.fieldLink RX10 465 RX10 "kept" "[I" ∈ sw_T := sw_mem 1656 (by decide +kernel) rfl
theorem fl_X10_51 : Cond.fieldLink RX10 51 RX10 "to" "I" ∈ sw_T := sw_mem 1609 (by decide +kernel) rfl
theorem fl_X10_76 : Cond.fieldLink RX10 76 RX10 "dog" "I" ∈ sw_T := sw_mem 1600 (by decide +kernel) rfl
theorem fl_X10_79 : Cond.fieldLink RX10 79 RX10 "now" "[I" ∈ sw_T := sw_mem 1604 (by decide +kernel) rfl
theorem fl_X10_82 : Cond.fieldLink RX10 82 RX10 "undos" "I" ∈ sw_T := sw_mem 1627 (by decide +kernel) rfl
theorem fl_X10_85 : Cond.fieldLink RX10 85 RX10 "seens" "I" ∈ sw_T := sw_mem 1649 (by decide +kernel) rfl
theorem fl_X10_88 : Cond.fieldLink RX10 88 RX10 "changes" "I" ∈ sw_T := sw_mem 1601 (by decide +kernel) rfl
theorem fl_X10_99 : Cond.fieldLink RX10 99 RX10 "readMany" "I" ∈ sw_T := sw_mem 1614 (by decide +kernel) rfl
theorem fl_X1_113 : Cond.fieldLink RX1 113 RX3 "ridden" "[I" ∈ sw_T := sw_mem 251 (by decide +kernel) rfl
theorem fl_X1_116 : Cond.fieldLink RX1 116 RX8 "size" "I" ∈ sw_T := sw_mem 129 (by decide +kernel) rfl
theorem fl_X1_15 : Cond.fieldLink RX1 15 RX1 "dogFloor" "I" ∈ sw_T := sw_mem 203 (by decide +kernel) rfl
theorem fl_X1_18 : Cond.fieldLink RX1 18 RX1 "riders" "I" ∈ sw_T := sw_mem 205 (by decide +kernel) rfl
theorem fl_X1_21 : Cond.fieldLink RX1 21 RX1 "home" "[I" ∈ sw_T := sw_mem 208 (by decide +kernel) rfl
theorem fl_X1_31 : Cond.fieldLink RX1 31 RX1 "rule" "LLeastWished$Law;" ∈ sw_T := sw_mem 212 (by decide +kernel) rfl
theorem fl_X1_38 : Cond.fieldLink RX1 38 RX1 "scene" "LLeastWished$Scene;" ∈ sw_T := sw_mem 214 (by decide +kernel) rfl
theorem fl_X1_46 : Cond.fieldLink RX1 46 RX5 "wished" "[I" ∈ sw_T := sw_mem 175 (by decide +kernel) rfl
theorem fl_X1_55 : Cond.fieldLink RX1 55 RX5 "standing" "[I" ∈ sw_T := sw_mem 178 (by decide +kernel) rfl
theorem fl_X1_64 : Cond.fieldLink RX1 64 RX5 "in" "I" ∈ sw_T := sw_mem 181 (by decide +kernel) rfl
theorem fl_X1_67 : Cond.fieldLink RX1 67 RX3 "lift" "I" ∈ sw_T := sw_mem 260 (by decide +kernel) rfl
theorem fl_X1_72 : Cond.fieldLink RX1 72 RX5 "lift" "I" ∈ sw_T := sw_mem 184 (by decide +kernel) rfl
theorem fl_X1_73 : Cond.fieldLink RX1 73 RX3 "rides" "I" ∈ sw_T := sw_mem 263 (by decide +kernel) rfl
theorem fl_X1_76 : Cond.fieldLink RX1 76 RX5 "rides" "I" ∈ sw_T := sw_mem 187 (by decide +kernel) rfl
theorem fl_X1_77 : Cond.fieldLink RX1 77 RX3 "at" "[I" ∈ sw_T := sw_mem 242 (by decide +kernel) rfl
theorem fl_X1_83 : Cond.fieldLink RX1 83 RX3 "wish" "[I" ∈ sw_T := sw_mem 247 (by decide +kernel) rfl
theorem fl_X1_9 : Cond.fieldLink RX1 9 RX1 "floors" "I" ∈ sw_T := sw_mem 200 (by decide +kernel) rfl
theorem fl_X1_99 : Cond.fieldLink RX1 99 RX3 "inside" "I" ∈ sw_T := sw_mem 255 (by decide +kernel) rfl
theorem fl_X2_101 : Cond.fieldLink RX2 101 RX5 "in" "I" ∈ sw_T := sw_mem 182 (by decide +kernel) rfl
theorem fl_X2_104 : Cond.fieldLink RX2 104 RX5 "rides" "I" ∈ sw_T := sw_mem 188 (by decide +kernel) rfl
theorem fl_X2_15 : Cond.fieldLink RX2 15 RX2 "waiting" "[I" ∈ sw_T := sw_mem 149 (by decide +kernel) rfl
theorem fl_X2_18 : Cond.fieldLink RX2 18 RX2 "values" "[I" ∈ sw_T := sw_mem 150 (by decide +kernel) rfl
theorem fl_X2_21 : Cond.fieldLink RX2 21 RX2 "size" "I" ∈ sw_T := sw_mem 151 (by decide +kernel) rfl
theorem fl_X2_25 : Cond.fieldLink RX2 25 RX2 "waitingCount" "I" ∈ sw_T := sw_mem 152 (by decide +kernel) rfl
theorem fl_X2_28 : Cond.fieldLink RX2 28 RX2 "asksRides" "Z" ∈ sw_T := sw_mem 153 (by decide +kernel) rfl
theorem fl_X2_36 : Cond.fieldLink RX2 36 RX8 "size" "I" ∈ sw_T := sw_mem 128 (by decide +kernel) rfl
theorem fl_X2_9 : Cond.fieldLink RX2 9 RX2 "code" "[I" ∈ sw_T := sw_mem 148 (by decide +kernel) rfl
theorem fl_X2_90 : Cond.fieldLink RX2 90 RX5 "wished" "[I" ∈ sw_T := sw_mem 176 (by decide +kernel) rfl
theorem fl_X2_95 : Cond.fieldLink RX2 95 RX5 "lift" "I" ∈ sw_T := sw_mem 185 (by decide +kernel) rfl
theorem fl_X2_98 : Cond.fieldLink RX2 98 RX5 "standing" "[I" ∈ sw_T := sw_mem 179 (by decide +kernel) rfl
theorem fl_X3_15 : Cond.fieldLink RX3 15 RX3 "wish" "[I" ∈ sw_T := sw_mem 244 (by decide +kernel) rfl
theorem fl_X3_18 : Cond.fieldLink RX3 18 RX3 "ridden" "[I" ∈ sw_T := sw_mem 249 (by decide +kernel) rfl
theorem fl_X3_21 : Cond.fieldLink RX3 21 RX3 "inside" "I" ∈ sw_T := sw_mem 252 (by decide +kernel) rfl
theorem fl_X3_25 : Cond.fieldLink RX3 25 RX3 "lift" "I" ∈ sw_T := sw_mem 256 (by decide +kernel) rfl
theorem fl_X3_28 : Cond.fieldLink RX3 28 RX3 "rides" "I" ∈ sw_T := sw_mem 261 (by decide +kernel) rfl
theorem fl_X3_9 : Cond.fieldLink RX3 9 RX3 "at" "[I" ∈ sw_T := sw_mem 240 (by decide +kernel) rfl
theorem fl_X4_13 : Cond.fieldLink RX4 13 RX4 "moments" "[LLeastWished$Moment;" ∈ sw_T := sw_mem 287 (by decide +kernel) rfl
theorem fl_X4_17 : Cond.fieldLink RX4 17 RX4 "next" "I" ∈ sw_T := sw_mem 288 (by decide +kernel) rfl
theorem fl_X4_21 : Cond.fieldLink RX4 21 RX4 "size" "I" ∈ sw_T := sw_mem 289 (by decide +kernel) rfl
theorem fl_X6_107 : Cond.fieldLink RX6 107 RX3 "at" "[I" ∈ sw_T := sw_mem 241 (by decide +kernel) rfl
theorem fl_X6_12 : Cond.fieldLink RX6 12 RX6 "moment" "LLeastWished$Moment;" ∈ sw_T := sw_mem 352 (by decide +kernel) rfl
theorem fl_X6_18 : Cond.fieldLink RX6 18 RX6 "keys" "[J" ∈ sw_T := sw_mem 353 (by decide +kernel) rfl
theorem fl_X6_22 : Cond.fieldLink RX6 22 RX6 "steps" "[I" ∈ sw_T := sw_mem 354 (by decide +kernel) rfl
theorem fl_X6_26 : Cond.fieldLink RX6 26 RX6 "slots" "[I" ∈ sw_T := sw_mem 355 (by decide +kernel) rfl
theorem fl_X6_29 : Cond.fieldLink RX6 29 RX6 "found" "I" ∈ sw_T := sw_mem 356 (by decide +kernel) rfl
theorem fl_X6_33 : Cond.fieldLink RX6 33 RX6 "rides" "I" ∈ sw_T := sw_mem 358 (by decide +kernel) rfl
theorem fl_X6_36 : Cond.fieldLink RX6 36 RX6 "more" "Z" ∈ sw_T := sw_mem 360 (by decide +kernel) rfl
theorem fl_X6_40 : Cond.fieldLink RX6 40 RX6 "wanted" "I" ∈ sw_T := sw_mem 362 (by decide +kernel) rfl
theorem fl_X6_43 : Cond.fieldLink RX6 43 RX6 "wantedThose" "I" ∈ sw_T := sw_mem 363 (by decide +kernel) rfl
theorem fl_X6_46 : Cond.fieldLink RX6 46 RX6 "wantedFloor" "I" ∈ sw_T := sw_mem 364 (by decide +kernel) rfl
theorem fl_X6_59 : Cond.fieldLink RX6 59 RX3 "rides" "I" ∈ sw_T := sw_mem 262 (by decide +kernel) rfl
theorem fl_X6_80 : Cond.fieldLink RX6 80 RX3 "lift" "I" ∈ sw_T := sw_mem 259 (by decide +kernel) rfl
theorem fl_X7_15 : Cond.fieldLink RX7 15 RX7 "those" "[I" ∈ sw_T := sw_mem 307 (by decide +kernel) rfl
theorem fl_X7_18 : Cond.fieldLink RX7 18 RX7 "to" "[I" ∈ sw_T := sw_mem 308 (by decide +kernel) rfl
theorem fl_X7_24 : Cond.fieldLink RX7 24 RX7 "alone" "LLeastWished$Moment;" ∈ sw_T := sw_mem 309 (by decide +kernel) rfl
theorem fl_X7_28 : Cond.fieldLink RX7 28 RX7 "size" "I" ∈ sw_T := sw_mem 310 (by decide +kernel) rfl
theorem fl_X7_32 : Cond.fieldLink RX7 32 RX3 "wish" "[I" ∈ sw_T := sw_mem 245 (by decide +kernel) rfl
theorem fl_X7_41 : Cond.fieldLink RX7 41 RX3 "lift" "I" ∈ sw_T := sw_mem 257 (by decide +kernel) rfl
theorem fl_X7_54 : Cond.fieldLink RX7 54 RX1 "floors" "I" ∈ sw_T := sw_mem 201 (by decide +kernel) rfl
theorem fl_X7_61 : Cond.fieldLink RX7 61 RX1 "riders" "I" ∈ sw_T := sw_mem 206 (by decide +kernel) rfl
theorem fl_X7_9 : Cond.fieldLink RX7 9 RX7 "from" "[I" ∈ sw_T := sw_mem 306 (by decide +kernel) rfl
theorem fl_X8_15 : Cond.fieldLink RX8 15 RX8 "size" "I" ∈ sw_T := sw_mem 125 (by decide +kernel) rfl
theorem fl_X8_9 : Cond.fieldLink RX8 9 RX8 "signs" "[I" ∈ sw_T := sw_mem 124 (by decide +kernel) rfl
theorem fl_X9_108 : Cond.fieldLink RX9 108 RX1 "rule" "LLeastWished$Law;" ∈ sw_T := sw_mem 213 (by decide +kernel) rfl
theorem fl_X9_12 : Cond.fieldLink RX9 12 RX9 "text" "LLeastWished$Text;" ∈ sw_T := sw_mem 386 (by decide +kernel) rfl
theorem fl_X9_129 : Cond.fieldLink RX9 129 RX1 "home" "[I" ∈ sw_T := sw_mem 209 (by decide +kernel) rfl
theorem fl_X9_133 : Cond.fieldLink RX9 133 RX3 "wish" "[I" ∈ sw_T := sw_mem 246 (by decide +kernel) rfl
theorem fl_X9_136 : Cond.fieldLink RX9 136 RX1 "truth" "[I" ∈ sw_T := sw_mem 211 (by decide +kernel) rfl
theorem fl_X9_139 : Cond.fieldLink RX9 139 RX3 "at" "[I" ∈ sw_T := sw_mem 243 (by decide +kernel) rfl
theorem fl_X9_142 : Cond.fieldLink RX9 142 RX3 "inside" "I" ∈ sw_T := sw_mem 253 (by decide +kernel) rfl
theorem fl_X9_145 : Cond.fieldLink RX9 145 RX3 "ridden" "[I" ∈ sw_T := sw_mem 250 (by decide +kernel) rfl
theorem fl_X9_154 : Cond.fieldLink RX9 154 RX1 "riders" "I" ∈ sw_T := sw_mem 207 (by decide +kernel) rfl
theorem fl_X9_161 : Cond.fieldLink RX9 161 RX1 "dogFloor" "I" ∈ sw_T := sw_mem 204 (by decide +kernel) rfl
theorem fl_X9_19 : Cond.fieldLink RX9 19 RX9 "building" "LLeastWished$House;" ∈ sw_T := sw_mem 387 (by decide +kernel) rfl
theorem fl_X9_204 : Cond.fieldLink RX9 204 RX0 "deeds" "I" ∈ sw_T := sw_mem 335 (by decide +kernel) rfl
theorem fl_X9_207 : Cond.fieldLink RX9 207 RX0 "rides" "I" ∈ sw_T := sw_mem 333 (by decide +kernel) rfl
theorem fl_X9_210 : Cond.fieldLink RX9 210 RX0 "acts" "I" ∈ sw_T := sw_mem 331 (by decide +kernel) rfl
theorem fl_X9_217 : Cond.fieldLink RX9 217 RX4 "size" "I" ∈ sw_T := sw_mem 290 (by decide +kernel) rfl
theorem fl_X9_229 : Cond.fieldLink RX9 229 RX1 "floors" "I" ∈ sw_T := sw_mem 202 (by decide +kernel) rfl
theorem fl_X9_232 : Cond.fieldLink RX9 232 RX1 "scene" "LLeastWished$Scene;" ∈ sw_T := sw_mem 215 (by decide +kernel) rfl
theorem fl_X9_26 : Cond.fieldLink RX9 26 RX9 "now" "LLeastWished$Moment;" ∈ sw_T := sw_mem 388 (by decide +kernel) rfl
theorem fl_X9_277 : Cond.fieldLink RX9 277 RX2 "asksRides" "Z" ∈ sw_T := sw_mem 154 (by decide +kernel) rfl
theorem fl_X9_298 : Cond.fieldLink RX9 298 RX6 "more" "Z" ∈ sw_T := sw_mem 361 (by decide +kernel) rfl
theorem fl_X9_30 : Cond.fieldLink RX9 30 RX9 "trial" "LLeastWished$Moment;" ∈ sw_T := sw_mem 389 (by decide +kernel) rfl
theorem fl_X9_301 : Cond.fieldLink RX9 301 RX6 "rides" "I" ∈ sw_T := sw_mem 359 (by decide +kernel) rfl
theorem fl_X9_311 : Cond.fieldLink RX9 311 RX6 "found" "I" ∈ sw_T := sw_mem 357 (by decide +kernel) rfl
theorem fl_X9_351 : Cond.fieldLink RX9 351 RX3 "rides" "I" ∈ sw_T := sw_mem 264 (by decide +kernel) rfl
theorem fl_X9_36 : Cond.fieldLink RX9 36 RX9 "past" "LLeastWished$Past;" ∈ sw_T := sw_mem 390 (by decide +kernel) rfl
theorem fl_X9_40 : Cond.fieldLink RX9 40 RX9 "kept" "[LLeastWished$Moment;" ∈ sw_T := sw_mem 391 (by decide +kernel) rfl
theorem fl_X9_44 : Cond.fieldLink RX9 44 RX9 "isKept" "[Z" ∈ sw_T := sw_mem 392 (by decide +kernel) rfl
theorem fl_X9_51 : Cond.fieldLink RX9 51 RX9 "seen" "LLeastWished$Seen;" ∈ sw_T := sw_mem 393 (by decide +kernel) rfl
theorem fl_X9_55 : Cond.fieldLink RX9 55 RX9 "chances" "[J" ∈ sw_T := sw_mem 394 (by decide +kernel) rfl
theorem fl_X9_59 : Cond.fieldLink RX9 59 RX9 "told" "[J" ∈ sw_T := sw_mem 395 (by decide +kernel) rfl
theorem fl_X9_62 : Cond.fieldLink RX9 62 RX9 "toldCount" "I" ∈ sw_T := sw_mem 396 (by decide +kernel) rfl
theorem fl_X9_69 : Cond.fieldLink RX9 69 RX9 "today" "LLeastWished$Day;" ∈ sw_T := sw_mem 397 (by decide +kernel) rfl
theorem fl_X9_76 : Cond.fieldLink RX9 76 RX9 "plans" "LLeastWished$Search;" ∈ sw_T := sw_mem 398 (by decide +kernel) rfl
theorem fl_X9_80 : Cond.fieldLink RX9 80 RX8 "size" "I" ∈ sw_T := sw_mem 127 (by decide +kernel) rfl
theorem fl_X9_93 : Cond.fieldLink RX9 93 RX7 "size" "I" ∈ sw_T := sw_mem 311 (by decide +kernel) rfl
theorem fl_X9_97 : Cond.fieldLink RX9 97 RX3 "lift" "I" ∈ sw_T := sw_mem 258 (by decide +kernel) rfl
theorem ml_X0_32 : Cond.methodLink RX0 32 yX8_at ∈ sw_T := sw_mem 672 (by decide +kernel) rfl
theorem ml_X0_36 : Cond.methodLink RX0 36 yX0_nextPlace ∈ sw_T := sw_mem 673 (by decide +kernel) rfl
theorem ml_X0_40 : Cond.methodLink RX0 40 yX8_flawAtEnd ∈ sw_T := sw_mem 682 (by decide +kernel) rfl
theorem ml_X0_44 : Cond.methodLink RX0 44 yX0_placeBehind ∈ sw_T := sw_mem 676 (by decide +kernel) rfl
theorem ml_X0_47 : Cond.methodLink RX0 47 yX0_isLetter ∈ sw_T := sw_mem 679 (by decide +kernel) rfl
theorem ml_X0_51 : Cond.methodLink RX0 51 yX0_act ∈ sw_T := sw_mem 687 (by decide +kernel) rfl
theorem ml_X0_55 : Cond.methodLink RX0 55 yX0_pass ∈ sw_T := sw_mem 691 (by decide +kernel) rfl
theorem ml_X0_59 : Cond.methodLink RX0 59 yX0_wish ∈ sw_T := sw_mem 697 (by decide +kernel) rfl
theorem ml_X0_63 : Cond.methodLink RX0 63 yX1_carry ∈ sw_T := sw_mem 703 (by decide +kernel) rfl
theorem ml_X0_69 : Cond.methodLink RX0 69 yX3_stands ∈ sw_T := sw_mem 695 (by decide +kernel) rfl
theorem ml_X0_74 : Cond.methodLink RX0 74 yX3_isIn ∈ sw_T := sw_mem 696 (by decide +kernel) rfl
theorem ml_X0_80 : Cond.methodLink RX0 80 yX1_hasRider ∈ sw_T := sw_mem 701 (by decide +kernel) rfl
theorem ml_X0_83 : Cond.methodLink RX0 83 yX1_canBeWish ∈ sw_T := sw_mem 702 (by decide +kernel) rfl
theorem ml_X10_105 : Cond.methodLink RX10 105 yX10_readsFloor ∈ sw_T := sw_mem 1136 (by decide +kernel) rfl
theorem ml_X10_108 : Cond.methodLink RX10 108 yX10_takes ∈ sw_T := sw_mem 1150 (by decide +kernel) rfl
theorem ml_X10_120 : Cond.methodLink RX10 120 yX10_begins ∈ sw_T := sw_mem 1126 (by decide +kernel) rfl
theorem ml_X10_124 : Cond.methodLink RX10 124 yX10_readsRider ∈ sw_T := sw_mem 1132 (by decide +kernel) rfl
theorem ml_X10_127 : Cond.methodLink RX10 127 yX10_faultOf ∈ sw_T := sw_mem 1157 (by decide +kernel) rfl
theorem ml_X10_131 : Cond.methodLink RX10 131 yX10_comes ∈ sw_T := sw_mem 1161 (by decide +kernel) rfl
theorem ml_X10_147 : Cond.methodLink RX10 147 yX10_readsThing ∈ sw_T := sw_mem 1173 (by decide +kernel) rfl
theorem ml_X10_150 : Cond.methodLink RX10 150 yX10_codes ∈ sw_T := sw_mem 1177 (by decide +kernel) rfl
theorem ml_X10_156 : Cond.methodLink RX10 156 yX10_among ∈ sw_T := sw_mem 1182 (by decide +kernel) rfl
theorem ml_X10_160 : Cond.methodLink RX10 160 yX10_readsRank ∈ sw_T := sw_mem 1169 (by decide +kernel) rfl
theorem ml_X10_175 : Cond.methodLink RX10 175 yJ6_bitCount_0f7a4 ∈ sw_T := sw_mem 1321 (by decide +kernel) rfl
theorem ml_X10_18 : Cond.methodLink RX10 18 yX10_enters ∈ sw_T := sw_mem 1338 (by decide +kernel) rfl
theorem ml_X10_195 : Cond.methodLink RX10 195 yX10_has ∈ sw_T := sw_mem 1251 (by decide +kernel) rfl
theorem ml_X10_205 : Cond.methodLink RX10 205 yX10_worked ∈ sw_T := sw_mem 1330 (by decide +kernel) rfl
theorem ml_X10_209 : Cond.methodLink RX10 209 yX10_thingOf ∈ sw_T := sw_mem 1333 (by decide +kernel) rfl
theorem ml_X10_212 : Cond.methodLink RX10 212 yX10_lawFor ∈ sw_T := sw_mem 1326 (by decide +kernel) rfl
theorem ml_X10_215 : Cond.methodLink RX10 215 yX10_looks ∈ sw_T := sw_mem 1317 (by decide +kernel) rfl
theorem ml_X10_219 : Cond.methodLink RX10 219 yX10_leastStop ∈ sw_T := sw_mem 1322 (by decide +kernel) rfl
theorem ml_X10_222 : Cond.methodLink RX10 222 yX10_stopOf ∈ sw_T := sw_mem 1313 (by decide +kernel) rfl
theorem ml_X10_226 : Cond.methodLink RX10 226 yX10_isRider ∈ sw_T := sw_mem 1242 (by decide +kernel) rfl
theorem ml_X10_231 : Cond.methodLink RX10 231 yX10_refuse ∈ sw_T := sw_mem 1247 (by decide +kernel) rfl
theorem ml_X10_242 : Cond.methodLink RX10 242 yX10_draws ∈ sw_T := sw_mem 1272 (by decide +kernel) rfl
theorem ml_X10_248 : Cond.methodLink RX10 248 yX10_canEnter ∈ sw_T := sw_mem 1285 (by decide +kernel) rfl
theorem ml_X10_25 : Cond.methodLink RX10 25 yX10_in ∈ sw_T := sw_mem 1113 (by decide +kernel) rfl
theorem ml_X10_251 : Cond.methodLink RX10 251 yX10_putsBy ∈ sw_T := sw_mem 1289 (by decide +kernel) rfl
theorem ml_X10_255 : Cond.methodLink RX10 255 yX10_adds ∈ sw_T := sw_mem 1293 (by decide +kernel) rfl
theorem ml_X10_258 : Cond.methodLink RX10 258 yX10_canLeave ∈ sw_T := sw_mem 1301 (by decide +kernel) rfl
theorem ml_X10_261 : Cond.methodLink RX10 261 yX10_travels ∈ sw_T := sw_mem 1309 (by decide +kernel) rfl
theorem ml_X10_289 : Cond.methodLink RX10 289 yX10_readsAct ∈ sw_T := sw_mem 1351 (by decide +kernel) rfl
theorem ml_X10_292 : Cond.methodLink RX10 292 yX10_does ∈ sw_T := sw_mem 1356 (by decide +kernel) rfl
theorem ml_X10_295 : Cond.methodLink RX10 295 yX10_there ∈ sw_T := sw_mem 1368 (by decide +kernel) rfl
theorem ml_X10_302 : Cond.methodLink RX10 302 yX10_fewestOf ∈ sw_T := sw_mem 1384 (by decide +kernel) rfl
theorem ml_X10_308 : Cond.methodLink RX10 308 yX10_bestWish ∈ sw_T := sw_mem 1396 (by decide +kernel) rfl
theorem ml_X10_316 : Cond.methodLink RX10 316 yX10_puts ∈ sw_T := sw_mem 1405 (by decide +kernel) rfl
theorem ml_X10_322 : Cond.methodLink RX10 322 yX10_countsRides ∈ sw_T := sw_mem 1417 (by decide +kernel) rfl
theorem ml_X10_327 : Cond.methodLink RX10 327 yX10_comeHome ∈ sw_T := sw_mem 1426 (by decide +kernel) rfl
theorem ml_X10_351 : Cond.methodLink RX10 351 yX10_packed ∈ sw_T := sw_mem 1451 (by decide +kernel) rfl
theorem ml_X10_355 : Cond.methodLink RX10 355 yX10_slotOf ∈ sw_T := sw_mem 1455 (by decide +kernel) rfl
theorem ml_X10_375 : Cond.methodLink RX10 375 yX10_finds ∈ sw_T := sw_mem 1447 (by decide +kernel) rfl
theorem ml_X10_379 : Cond.methodLink RX10 379 yX10_unpacks ∈ sw_T := sw_mem 1466 (by decide +kernel) rfl
theorem ml_X10_391 : Cond.methodLink RX10 391 yX10_homeBits ∈ sw_T := sw_mem 1472 (by decide +kernel) rfl
theorem ml_X10_394 : Cond.methodLink RX10 394 yX10_findsFirst ∈ sw_T := sw_mem 1443 (by decide +kernel) rfl
theorem ml_X10_397 : Cond.methodLink RX10 397 yX10_isAim ∈ sw_T := sw_mem 1462 (by decide +kernel) rfl
theorem ml_X10_400 : Cond.methodLink RX10 400 yX10_findsFrom ∈ sw_T := sw_mem 1476 (by decide +kernel) rfl
theorem ml_X10_406 : Cond.methodLink RX10 406 yX10_seeks ∈ sw_T := sw_mem 1439 (by decide +kernel) rfl
theorem ml_X10_409 : Cond.methodLink RX10 409 yX10_tellsWay ∈ sw_T := sw_mem 1480 (by decide +kernel) rfl
theorem ml_X10_414 : Cond.methodLink RX10 414 yX10_findsAll ∈ sw_T := sw_mem 1497 (by decide +kernel) rfl
theorem ml_X10_427 : Cond.methodLink RX10 427 yX10_isSo ∈ sw_T := sw_mem 1518 (by decide +kernel) rfl
theorem ml_X10_430 : Cond.methodLink RX10 430 yX10_areSo ∈ sw_T := sw_mem 1526 (by decide +kernel) rfl
theorem ml_X10_433 : Cond.methodLink RX10 433 yX10_tellsLies ∈ sw_T := sw_mem 1534 (by decide +kernel) rfl
theorem ml_X10_436 : Cond.methodLink RX10 436 yX10_isTruly ∈ sw_T := sw_mem 1542 (by decide +kernel) rfl
theorem ml_X10_442 : Cond.methodLink RX10 442 yX10_bets ∈ sw_T := sw_mem 1555 (by decide +kernel) rfl
theorem ml_X10_448 : Cond.methodLink RX10 448 yX10_betsAll ∈ sw_T := sw_mem 1550 (by decide +kernel) rfl
theorem ml_X10_451 : Cond.methodLink RX10 451 yX10_entersFraction ∈ sw_T := sw_mem 1559 (by decide +kernel) rfl
theorem ml_X10_455 : Cond.methodLink RX10 455 yX10_rideAlone ∈ sw_T := sw_mem 1574 (by decide +kernel) rfl
theorem ml_X10_54 : Cond.methodLink RX10 54 yX10_flag ∈ sw_T := sw_mem 1154 (by decide +kernel) rfl
theorem ml_X10_62 : Cond.methodLink RX10 62 yJ0_length_8abf5 ∈ sw_T := sw_mem 1186 (by decide +kernel) rfl
theorem ml_X10_68 : Cond.methodLink RX10 68 yJ0_charAt_5068e ∈ sw_T := sw_mem 1196 (by decide +kernel) rfl
theorem ml_X10_7 : Cond.methodLink RX10 7 yX10_common ∈ sw_T := sw_mem 1563 (by decide +kernel) rfl
theorem ml_X10_91 : Cond.methodLink RX10 91 yX10_isDigit ∈ sw_T := sw_mem 1140 (by decide +kernel) rfl
theorem ml_X10_95 : Cond.methodLink RX10 95 yX10_isFloor ∈ sw_T := sw_mem 1146 (by decide +kernel) rfl
theorem ml_X1_102 : Cond.methodLink RX1 102 yX1_nextStop ∈ sw_T := sw_mem 616 (by decide +kernel) rfl
theorem ml_X1_106 : Cond.methodLink RX1 106 yX1_homeAt ∈ sw_T := sw_mem 647 (by decide +kernel) rfl
theorem ml_X1_110 : Cond.methodLink RX1 110 yX3_isIn ∈ sw_T := sw_mem 651 (by decide +kernel) rfl
theorem ml_X1_124 : Cond.methodLink RX1 124 yX8_at ∈ sw_T := sw_mem 465 (by decide +kernel) rfl
theorem ml_X1_126 : Cond.methodLink RX1 126 yX1_nextPlace ∈ sw_T := sw_mem 469 (by decide +kernel) rfl
theorem ml_X1_130 : Cond.methodLink RX1 130 yX8_flawAtEnd ∈ sw_T := sw_mem 477 (by decide +kernel) rfl
theorem ml_X1_42 : Cond.methodLink RX1 42 yX1_hasFloor ∈ sw_T := sw_mem 473 (by decide +kernel) rfl
theorem ml_X1_49 : Cond.methodLink RX1 49 yJ7_fill_53178 ∈ sw_T := sw_mem 624 (by decide +kernel) rfl
theorem ml_X1_58 : Cond.methodLink RX1 58 yJ6_bitCount_0f7a4 ∈ sw_T := sw_mem 625 (by decide +kernel) rfl
theorem ml_X1_80 : Cond.methodLink RX1 80 yX1_addAt ∈ sw_T := sw_mem 631 (by decide +kernel) rfl
theorem ml_X1_86 : Cond.methodLink RX1 86 yX1_look ∈ sw_T := sw_mem 620 (by decide +kernel) rfl
theorem ml_X1_90 : Cond.methodLink RX1 90 yX2_worth ∈ sw_T := sw_mem 634 (by decide +kernel) rfl
theorem ml_X2_32 : Cond.methodLink RX2 32 yX2_compares ∈ sw_T := sw_mem 509 (by decide +kernel) rfl
theorem ml_X2_45 : Cond.methodLink RX2 45 yX8_at ∈ sw_T := sw_mem 499 (by decide +kernel) rfl
theorem ml_X2_49 : Cond.methodLink RX2 49 yX2_isDigit ∈ sw_T := sw_mem 500 (by decide +kernel) rfl
theorem ml_X2_52 : Cond.methodLink RX2 52 yX2_isName ∈ sw_T := sw_mem 503 (by decide +kernel) rfl
theorem ml_X2_55 : Cond.methodLink RX2 55 yX2_joinsTwo ∈ sw_T := sw_mem 506 (by decide +kernel) rfl
theorem ml_X2_58 : Cond.methodLink RX2 58 yX8_flawAtEnd ∈ sw_T := sw_mem 512 (by decide +kernel) rfl
theorem ml_X2_62 : Cond.methodLink RX2 62 yX2_putDigit ∈ sw_T := sw_mem 517 (by decide +kernel) rfl
theorem ml_X2_66 : Cond.methodLink RX2 66 yX2_put ∈ sw_T := sw_mem 521 (by decide +kernel) rfl
theorem ml_X2_70 : Cond.methodLink RX2 70 yX2_await ∈ sw_T := sw_mem 525 (by decide +kernel) rfl
theorem ml_X2_73 : Cond.methodLink RX2 73 yX2_release ∈ sw_T := sw_mem 529 (by decide +kernel) rfl
theorem ml_X2_79 : Cond.methodLink RX2 79 yX2_strength ∈ sw_T := sw_mem 533 (by decide +kernel) rfl
theorem ml_X2_82 : Cond.methodLink RX2 82 yX2_named ∈ sw_T := sw_mem 638 (by decide +kernel) rfl
theorem ml_X2_86 : Cond.methodLink RX2 86 yX2_joined ∈ sw_T := sw_mem 641 (by decide +kernel) rfl
theorem ml_X3_31 : Cond.methodLink RX3 31 yJ7_fill_53178 ∈ sw_T := sw_mem 237 (by decide +kernel) rfl
theorem ml_X3_43 : Cond.methodLink RX3 43 yX3_isIn ∈ sw_T := sw_mem 583 (by decide +kernel) rfl
theorem ml_X4_25 : Cond.methodLink RX4 25 yX3_copy ∈ sw_T := sw_mem 591 (by decide +kernel) rfl
theorem ml_X6_100 : Cond.methodLink RX6 100 yX6_keyAfter ∈ sw_T := sw_mem 855 (by decide +kernel) rfl
theorem ml_X6_104 : Cond.methodLinkNest RX6 104 yX9_nextSet "LeastWished" ∈ lw_tbl := List.mem_of_getElem? (i := 859) (by decide +kernel)
theorem ml_X6_110 : Cond.methodLink RX6 110 yX6_floorOf ∈ sw_T := sw_mem 836 (by decide +kernel) rfl
theorem ml_X6_114 : Cond.methodLink RX6 114 yX6_liftOf ∈ sw_T := sw_mem 840 (by decide +kernel) rfl
theorem ml_X6_122 : Cond.methodLink RX6 122 yX6_isState ∈ sw_T := sw_mem 829 (by decide +kernel) rfl
theorem ml_X6_125 : Cond.methodLink RX6 125 yX6_onFloor ∈ sw_T := sw_mem 833 (by decide +kernel) rfl
theorem ml_X6_49 : Cond.methodLink RX6 49 yJ7_fill_53178 ∈ sw_T := sw_mem 815 (by decide +kernel) rfl
theorem ml_X6_55 : Cond.methodLink RX6 55 yX3_copy ∈ sw_T := sw_mem 816 (by decide +kernel) rfl
theorem ml_X6_60 : Cond.methodLink RX6 60 yX6_keyOf ∈ sw_T := sw_mem 817 (by decide +kernel) rfl
theorem ml_X6_64 : Cond.methodLink RX6 64 yX6_add ∈ sw_T := sw_mem 820 (by decide +kernel) rfl
theorem ml_X6_68 : Cond.methodLink RX6 68 yX6_isWanted ∈ sw_T := sw_mem 825 (by decide +kernel) rfl
theorem ml_X6_72 : Cond.methodLink RX6 72 yX6_goOnFrom ∈ sw_T := sw_mem 843 (by decide +kernel) rfl
theorem ml_X6_76 : Cond.methodLink RX6 76 yX6_bringUp ∈ sw_T := sw_mem 847 (by decide +kernel) rfl
theorem ml_X6_83 : Cond.methodLink RX6 83 yX3_onFloor ∈ sw_T := sw_mem 851 (by decide +kernel) rfl
theorem ml_X6_87 : Cond.methodLinkNest RX6 87 yX9_setsOf "LeastWished" ∈ lw_tbl := List.mem_of_getElem? (i := 852) (by decide +kernel)
theorem ml_X6_90 : Cond.methodLink RX6 90 yX1_nextStop ∈ sw_T := sw_mem 853 (by decide +kernel) rfl
theorem ml_X6_96 : Cond.methodLink RX6 96 yX1_homeAt ∈ sw_T := sw_mem 854 (by decide +kernel) rfl
theorem ml_X7_44 : Cond.methodLink RX7 44 yX1_nextStop ∈ sw_T := sw_mem 930 (by decide +kernel) rfl
theorem ml_X7_50 : Cond.methodLink RX7 50 yX7_allSo ∈ sw_T := sw_mem 939 (by decide +kernel) rfl
theorem ml_X7_57 : Cond.methodLink RX7 57 yX7_allSoIf ∈ sw_T := sw_mem 972 (by decide +kernel) rfl
theorem ml_X7_64 : Cond.methodLink RX7 64 yX7_otherWishSo ∈ sw_T := sw_mem 973 (by decide +kernel) rfl
theorem ml_X9_100 : Cond.methodLink RX9 100 yX1_flawOfLines ∈ sw_T := sw_mem 458 (by decide +kernel) rfl
theorem ml_X9_104 : Cond.methodLink RX9 104 yX9_takeLines ∈ sw_T := sw_mem 481 (by decide +kernel) rfl
theorem ml_X9_112 : Cond.methodLink RX9 112 yX2_flawOf ∈ sw_T := sw_mem 494 (by decide +kernel) rfl
theorem ml_X9_118 : Cond.methodLink RX9 118 yX2_take ∈ sw_T := sw_mem 513 (by decide +kernel) rfl
theorem ml_X9_122 : Cond.methodLink RX9 122 yX1_hasRider ∈ sw_T := sw_mem 543 (by decide +kernel) rfl
theorem ml_X9_148 : Cond.methodLink RX9 148 yX1_hasFloor ∈ sw_T := sw_mem 547 (by decide +kernel) rfl
theorem ml_X9_151 : Cond.methodLink RX9 151 yX1_canBeWish ∈ sw_T := sw_mem 548 (by decide +kernel) rfl
theorem ml_X9_157 : Cond.methodLink RX9 157 yX9_asKind ∈ sw_T := sw_mem 556 (by decide +kernel) rfl
theorem ml_X9_164 : Cond.methodLink RX9 164 yX9_nextDrawn ∈ sw_T := sw_mem 567 (by decide +kernel) rfl
theorem ml_X9_168 : Cond.methodLink RX9 168 yX9_ofFloors ∈ sw_T := sw_mem 571 (by decide +kernel) rfl
theorem ml_X9_171 : Cond.methodLink RX9 171 yX9_addRider ∈ sw_T := sw_mem 486 (by decide +kernel) rfl
theorem ml_X9_175 : Cond.methodLink RX9 175 yX3_stands ∈ sw_T := sw_mem 579 (by decide +kernel) rfl
theorem ml_X9_178 : Cond.methodLink RX9 178 yX4_prepare ∈ sw_T := sw_mem 587 (by decide +kernel) rfl
theorem ml_X9_182 : Cond.methodLink RX9 182 yX4_commit ∈ sw_T := sw_mem 598 (by decide +kernel) rfl
theorem ml_X9_185 : Cond.methodLink RX9 185 yX3_isIn ∈ sw_T := sw_mem 607 (by decide +kernel) rfl
theorem ml_X9_188 : Cond.methodLink RX9 188 yX1_carry ∈ sw_T := sw_mem 612 (by decide +kernel) rfl
theorem ml_X9_192 : Cond.methodLink RX9 192 yX9_clearRow ∈ sw_T := sw_mem 652 (by decide +kernel) rfl
theorem ml_X9_195 : Cond.methodLink RX9 195 yX9_tell ∈ sw_T := sw_mem 656 (by decide +kernel) rfl
theorem ml_X9_199 : Cond.methodLink RX9 199 yX0_flawOf ∈ sw_T := sw_mem 668 (by decide +kernel) rfl
theorem ml_X9_200 : Cond.methodLink RX9 200 yX0_live ∈ sw_T := sw_mem 683 (by decide +kernel) rfl
theorem ml_X9_213 : Cond.methodLink RX9 213 yX4_bringBack ∈ sw_T := sw_mem 708 (by decide +kernel) rfl
theorem ml_X9_218 : Cond.methodLink RX9 218 yX1_nextStop ∈ sw_T := sw_mem 716 (by decide +kernel) rfl
theorem ml_X9_222 : Cond.methodLink RX9 222 yX3_onFloor ∈ sw_T := sw_mem 721 (by decide +kernel) rfl
theorem ml_X9_225 : Cond.methodLink RX9 225 yX1_look ∈ sw_T := sw_mem 725 (by decide +kernel) rfl
theorem ml_X9_236 : Cond.methodLink RX9 236 yX2_worth ∈ sw_T := sw_mem 726 (by decide +kernel) rfl
theorem ml_X9_240 : Cond.methodLink RX9 240 yJ7_fill_d0a16 ∈ sw_T := sw_mem 731 (by decide +kernel) rfl
theorem ml_X9_246 : Cond.methodLink RX9 246 yX9_setsOf ∈ sw_T := sw_mem 734 (by decide +kernel) rfl
theorem ml_X9_249 : Cond.methodLink RX9 249 yX9_addChance ∈ sw_T := sw_mem 738 (by decide +kernel) rfl
theorem ml_X9_253 : Cond.methodLink RX9 253 yX9_nextSet ∈ sw_T := sw_mem 742 (by decide +kernel) rfl
theorem ml_X9_256 : Cond.methodLink RX9 256 yX9_fewestMoved ∈ sw_T := sw_mem 749 (by decide +kernel) rfl
theorem ml_X9_259 : Cond.methodLink RX9 259 yX3_copy ∈ sw_T := sw_mem 761 (by decide +kernel) rfl
theorem ml_X9_262 : Cond.methodLink RX9 262 yX9_bestWish ∈ sw_T := sw_mem 762 (by decide +kernel) rfl
theorem ml_X9_265 : Cond.methodLink RX9 265 yX9_distanceBy ∈ sw_T := sw_mem 766 (by decide +kernel) rfl
theorem ml_X9_269 : Cond.methodLink RX9 269 yX9_tellAnew ∈ sw_T := sw_mem 775 (by decide +kernel) rfl
theorem ml_X9_272 : Cond.methodLink RX9 272 yJ6_bitCount_0f7a4 ∈ sw_T := sw_mem 737 (by decide +kernel) rfl
theorem ml_X9_281 : Cond.methodLink RX9 281 yX9_comeHome ∈ sw_T := sw_mem 791 (by decide +kernel) rfl
theorem ml_X9_284 : Cond.methodLink RX9 284 yX1_everybody ∈ sw_T := sw_mem 799 (by decide +kernel) rfl
theorem ml_X9_287 : Cond.methodLink RX9 287 yX9_ridesTillHome ∈ sw_T := sw_mem 803 (by decide +kernel) rfl
theorem ml_X9_290 : Cond.methodLink RX9 290 yX6_wantGathered ∈ sw_T := sw_mem 881 (by decide +kernel) rfl
theorem ml_X9_294 : Cond.methodLink RX9 294 yX6_seek ∈ sw_T := sw_mem 811 (by decide +kernel) rfl
theorem ml_X9_302 : Cond.methodLink RX9 302 yX6_wantNothing ∈ sw_T := sw_mem 889 (by decide +kernel) rfl
theorem ml_X9_305 : Cond.methodLink RX9 305 yX6_everHome ∈ sw_T := sw_mem 893 (by decide +kernel) rfl
theorem ml_X9_308 : Cond.methodLink RX9 308 yX6_everStopped ∈ sw_T := sw_mem 897 (by decide +kernel) rfl
theorem ml_X9_314 : Cond.methodLink RX9 314 yX7_add ∈ sw_T := sw_mem 909 (by decide +kernel) rfl
theorem ml_X9_318 : Cond.methodLink RX9 318 yX7_believe ∈ sw_T := sw_mem 921 (by decide +kernel) rfl
theorem ml_X9_322 : Cond.methodLink RX9 322 yX7_notSo ∈ sw_T := sw_mem 926 (by decide +kernel) rfl
theorem ml_X9_326 : Cond.methodLink RX9 326 yX7_allSoIf ∈ sw_T := sw_mem 935 (by decide +kernel) rfl
theorem ml_X9_330 : Cond.methodLink RX9 330 yX7_allSo ∈ sw_T := sw_mem 947 (by decide +kernel) rfl
theorem ml_X9_334 : Cond.methodLink RX9 334 yX9_explainedBy ∈ sw_T := sw_mem 948 (by decide +kernel) rfl
theorem ml_X9_337 : Cond.methodLink RX9 337 yX7_soWithOneMore ∈ sw_T := sw_mem 968 (by decide +kernel) rfl
theorem ml_X9_340 : Cond.methodLink RX9 340 yX9_weighStops ∈ sw_T := sw_mem 978 (by decide +kernel) rfl
theorem ml_X9_344 : Cond.methodLink RX9 344 yX9_tellFraction ∈ sw_T := sw_mem 986 (by decide +kernel) rfl
theorem ml_X9_348 : Cond.methodLink RX9 348 yX1_homeAt ∈ sw_T := sw_mem 998 (by decide +kernel) rfl
theorem ml_X9_352 : Cond.methodLink RX9 352 yX8_at ∈ sw_T := sw_mem 485 (by decide +kernel) rfl
theorem ml_X9_360 : Cond.methodLink RX9 360 yX6_wantHome ∈ sw_T := sw_mem 807 (by decide +kernel) rfl
theorem ml_X9_363 : Cond.methodLink RX9 363 yX9_tellPlan ∈ sw_T := sw_mem 860 (by decide +kernel) rfl
theorem ml_X9_366 : Cond.methodLink RX9 366 yX6_taken ∈ sw_T := sw_mem 864 (by decide +kernel) rfl
theorem ml_X9_369 : Cond.methodLink RX9 369 yX6_cameFrom ∈ sw_T := sw_mem 868 (by decide +kernel) rfl
theorem ml_X9_375 : Cond.methodLink RX9 375 yJ6_numberOfTrailingZeros_0f7a4 ∈ sw_T := sw_mem 952 (by decide +kernel) rfl
theorem ml_X9_378 : Cond.methodLink RX9 378 yX7_otherWishSo ∈ sw_T := sw_mem 956 (by decide +kernel) rfl
theorem ml_X9_382 : Cond.methodLink RX9 382 yX9_tellLiars ∈ sw_T := sw_mem 960 (by decide +kernel) rfl
theorem ml_X9_385 : Cond.methodLink RX9 385 yX9_weightOf ∈ sw_T := sw_mem 982 (by decide +kernel) rfl
theorem ml_X9_83 : Cond.methodLink RX9 83 yX8_put ∈ sw_T := sw_mem 430 (by decide +kernel) rfl
theorem ml_X9_87 : Cond.methodLink RX9 87 yX1_empty ∈ sw_T := sw_mem 442 (by decide +kernel) rfl
theorem ml_X9_90 : Cond.methodLink RX9 90 yX3_clear ∈ sw_T := sw_mem 446 (by decide +kernel) rfl
theorem ml_X9_94 : Cond.methodLink RX9 94 yX9_forgetWhatWas ∈ sw_T := sw_mem 450 (by decide +kernel) rfl
theorem k_J6_264 : Cond.constant RJ6 264 (65536) ∈ sw_T := sw_mem 955 (by decide +kernel) rfl
theorem k_J6_265 : Cond.constant RJ6 265 (1431655765) ∈ sw_T := sw_mem 628 (by decide +kernel) rfl
theorem k_J6_266 : Cond.constant RJ6 266 (858993459) ∈ sw_T := sw_mem 629 (by decide +kernel) rfl
theorem k_J6_267 : Cond.constant RJ6 267 (252645135) ∈ sw_T := sw_mem 630 (by decide +kernel) rfl
theorem k_X10_229 : Cond.constantLong RX10 229 (5) ∈ sw_T := sw_mem 1246 (by decide +kernel) rfl
theorem k_X10_234 : Cond.constantLong RX10 234 (10) ∈ sw_T := sw_mem 1258 (by decide +kernel) rfl
theorem k_X10_236 : Cond.constantLong RX10 236 (3) ∈ sw_T := sw_mem 1263 (by decide +kernel) rfl
theorem k_X10_241 : Cond.constant RX10 241 (1103515245) ∈ sw_T := sw_mem 1276 (by decide +kernel) rfl
theorem k_X10_264 : Cond.constantLong RX10 264 (60) ∈ sw_T := sw_mem 1346 (by decide +kernel) rfl
theorem k_X10_311 : Cond.constantLong RX10 311 (30) ∈ sw_T := sw_mem 1404 (by decide +kernel) rfl
theorem k_X10_320 : Cond.constantLong RX10 320 (12) ∈ sw_T := sw_mem 1412 (by decide +kernel) rfl
theorem k_X10_325 : Cond.constantLong RX10 325 (40) ∈ sw_T := sw_mem 1425 (by decide +kernel) rfl
theorem k_X10_336 : Cond.constantLong RX10 336 (7) ∈ sw_T := sw_mem 1470 (by decide +kernel) rfl
theorem k_X10_338 : Cond.constantLong RX10 338 (15) ∈ sw_T := sw_mem 1471 (by decide +kernel) rfl
theorem k_X10_340 : Cond.constantLong RX10 340 (31) ∈ sw_T := sw_mem 1459 (by decide +kernel) rfl
theorem k_X10_344 : Cond.constantLong RX10 344 (9223372036854775807) ∈ sw_T := sw_mem 1460 (by decide +kernel) rfl
theorem k_X10_346 : Cond.constantLong RX10 346 (16384) ∈ sw_T := sw_mem 1461 (by decide +kernel) rfl
theorem k_X10_412 : Cond.constantLong RX10 412 (6) ∈ sw_T := sw_mem 1496 (by decide +kernel) rfl
theorem k_X10_417 : Cond.constant RX10 417 (2147483647) ∈ sw_T := sw_mem 1505 (by decide +kernel) rfl
theorem k_X10_446 : Cond.constantLong RX10 446 (10000000000) ∈ sw_T := sw_mem 1554 (by decide +kernel) rfl
theorem k_X10_58 : Cond.constantLong RX10 58 (48) ∈ sw_T := sw_mem 1144 (by decide +kernel) rfl
theorem k_X10_60 : Cond.constantLong RX10 60 (57) ∈ sw_T := sw_mem 1145 (by decide +kernel) rfl
theorem k_X10_72 : Cond.constantLong RX10 72 (2) ∈ sw_T := sw_mem 1120 (by decide +kernel) rfl
theorem k_X10_74 : Cond.constantLong RX10 74 (9) ∈ sw_T := sw_mem 1121 (by decide +kernel) rfl
theorem k_X6_118 : Cond.constantLong RX6 118 (15) ∈ sw_T := sw_mem 839 (by decide +kernel) rfl
theorem k_X6_120 : Cond.constantLong RX6 120 (-7046029254386353131) ∈ sw_T := sw_mem 824 (by decide +kernel) rfl
theorem k_X9_354 : Cond.constant RX9 354 (1103515245) ∈ sw_T := sw_mem 570 (by decide +kernel) rfl
theorem mc_X3_37 : Cond.methodLink RX3 37 arraycopyName ∈ sw_T := sw_mem 595 (by decide +kernel) rfl
theorem mc_X7_35 : Cond.methodLink RX7 35 arraycopyName ∈ sw_T := sw_mem 925 (by decide +kernel) rfl
theorem mm_X0_26 : Cond.methodLink RX0 26 Lib.Math.min.name ∈ sw_T := sw_mem 671 (by decide +kernel) rfl
theorem mm_X10_199 : Cond.methodLink RX10 199 Lib.Math.abs.name ∈ sw_T := sw_mem 1337 (by decide +kernel) rfl
theorem mm_X10_330 : Cond.methodLink RX10 330 Lib.Math.max.name ∈ sw_T := sw_mem 1434 (by decide +kernel) rfl
theorem mm_X10_45 : Cond.methodLink RX10 45 Lib.Math.min.name ∈ sw_T := sw_mem 1131 (by decide +kernel) rfl
theorem mm_X1_121 : Cond.methodLink RX1 121 Lib.Math.min.name ∈ sw_T := sw_mem 462 (by decide +kernel) rfl
theorem mm_X1_94 : Cond.methodLink RX1 94 Lib.Math.abs.name ∈ sw_T := sw_mem 644 (by decide +kernel) rfl
theorem mm_X2_39 : Cond.methodLink RX2 39 Lib.Math.min.name ∈ sw_T := sw_mem 498 (by decide +kernel) rfl
theorem mm_X2_76 : Cond.methodLink RX2 76 Lib.Math.max.name ∈ sw_T := sw_mem 536 (by decide +kernel) rfl
theorem mm_X4_29 : Cond.methodLink RX4 29 Lib.Math.min.name ∈ sw_T := sw_mem 602 (by decide +kernel) rfl
theorem mm_X9_355 : Cond.methodLink RX9 355 Lib.Math.abs.name ∈ sw_T := sw_mem 770 (by decide +kernel) rfl
theorem mm_X9_372 : Cond.methodLink RX9 372 Lib.Math.min.name ∈ sw_T := sw_mem 872 (by decide +kernel) rfl
set_option maxRecDepth 50000 in
theorem wm_abs : Cond.static Lib.Math.abs.name ∈ sw_T ∧ Cond.initialized "java/lang/Math" ∈ sw_T ∧ Cond.code Lib.Math.abs.name Lib.Math.abs.code 1 (some .int) ∈ sw_T := ⟨sw_mem 645 (by decide +kernel) rfl, sw_mem 99 (by decide +kernel) rfl, sw_mem 646 rfl rfl⟩
set_option maxRecDepth 50000 in
theorem wm_max : Cond.static Lib.Math.max.name ∈ sw_T ∧ Cond.initialized "java/lang/Math" ∈ sw_T ∧ Cond.code Lib.Math.max.name Lib.Math.max.code 2 (some .int) ∈ sw_T := ⟨sw_mem 537 (by decide +kernel) rfl, sw_mem 99 (by decide +kernel) rfl, sw_mem 538 rfl rfl⟩
set_option maxRecDepth 50000 in
theorem wm_min : Cond.static Lib.Math.min.name ∈ sw_T ∧ Cond.initialized "java/lang/Math" ∈ sw_T ∧ Cond.code Lib.Math.min.name Lib.Math.min.code 2 (some .int) ∈ sw_T := ⟨sw_mem 463 (by decide +kernel) rfl, sw_mem 99 (by decide +kernel) rfl, sw_mem 464 rfl rfl⟩
theorem wm_arraycopy : Cond.native arraycopyName ∈ sw_T ∧ Cond.static arraycopyName ∈ sw_T ∧ Cond.initialized "java/lang/System" ∈ sw_T := ⟨sw_mem 597 (by decide +kernel) rfl, sw_mem 596 (by decide +kernel) rfl, sw_mem 108 (by decide +kernel) rfl⟩
set_option maxRecDepth 50000 in
theorem wv_X10_common : sw_S yX10_common cX10_common 4 (some .long) 2 := ⟨sw_mem 1564 (by decide +kernel) rfl, sw_mem 98 (by decide +kernel) rfl, sw_mem 1565 rfl rfl, ⟨by decide +kernel, by decide +kernel, by decide +kernel⟩⟩
set_option maxRecDepth 50000 in
theorem wv_X1_hasFloor : sw_V yX1_hasFloor cX1_hasFloor 2 (some .boolean) 1 := ⟨sw_mem 474 (by decide +kernel) rfl, sw_mem 475 (by decide +kernel) rfl, sw_mem 89 (by decide +kernel) rfl, sw_mem 476 rfl rfl, ⟨by decide +kernel, by decide +kernel, by decide +kernel⟩⟩
set_option maxRecDepth 50000 in
theorem wv_X2_compares : sw_S yX2_compares cX2_compares 1 (some .boolean) 1 := ⟨sw_mem 510 (by decide +kernel) rfl, sw_mem 90 (by decide +kernel) rfl, sw_mem 511 rfl rfl, ⟨by decide +kernel, by decide +kernel, by decide +kernel⟩⟩
set_option maxRecDepth 50000 in
theorem wv_X2_put : sw_V yX2_put cX2_put 2 none 1 := ⟨sw_mem 523 (by decide +kernel) rfl, sw_mem 5 (by decide +kernel) rfl, sw_mem 90 (by decide +kernel) rfl, sw_mem 524 rfl rfl, ⟨by decide +kernel, by decide +kernel, by decide +kernel⟩⟩
set_option maxRecDepth 50000 in
theorem wv_X2_strength : sw_S yX2_strength cX2_strength 1 (some .int) 1 := ⟨sw_mem 534 (by decide +kernel) rfl, sw_mem 90 (by decide +kernel) rfl, sw_mem 535 rfl rfl, ⟨by decide +kernel, by decide +kernel, by decide +kernel⟩⟩
set_option maxRecDepth 50000 in
theorem wv_X3_isIn : sw_V yX3_isIn cX3_isIn 2 (some .boolean) 1 := ⟨sw_mem 584 (by decide +kernel) rfl, sw_mem 585 (by decide +kernel) rfl, sw_mem 92 (by decide +kernel) rfl, sw_mem 586 rfl rfl, ⟨by decide +kernel, by decide +kernel, by decide +kernel⟩⟩
set_option maxRecDepth 50000 in
theorem wv_X3_copy : sw_V yX3_copy cX3_copy 2 none 1 := ⟨sw_mem 592 (by decide +kernel) rfl, sw_mem 593 (by decide +kernel) rfl, sw_mem 92 (by decide +kernel) rfl, sw_mem 594 rfl rfl, ⟨by decide +kernel, by decide +kernel, by decide +kernel⟩⟩
set_option maxRecDepth 50000 in
theorem wv_X6_isState : sw_V yX6_isState cX6_isState 2 (some .boolean) 1 := ⟨sw_mem 831 (by decide +kernel) rfl, sw_mem 23 (by decide +kernel) rfl, sw_mem 97 (by decide +kernel) rfl, sw_mem 832 rfl rfl, ⟨by decide +kernel, by decide +kernel, by decide +kernel⟩⟩
set_option maxRecDepth 50000 in
theorem wv_X6_liftOf : sw_S yX6_liftOf cX6_liftOf 2 (some .int) 1 := ⟨sw_mem 841 (by decide +kernel) rfl, sw_mem 97 (by decide +kernel) rfl, sw_mem 842 rfl rfl, ⟨by decide +kernel, by decide +kernel, by decide +kernel⟩⟩
set_option maxRecDepth 50000 in
theorem wv_X6_floorOf : sw_S yX6_floorOf cX6_floorOf 3 (some .int) 2 := ⟨sw_mem 837 (by decide +kernel) rfl, sw_mem 97 (by decide +kernel) rfl, sw_mem 838 rfl rfl, ⟨by decide +kernel, by decide +kernel, by decide +kernel⟩⟩
set_option maxRecDepth 50000 in
theorem wv_X6_onFloor : sw_S yX6_onFloor cX6_onFloor 5 (some .int) 2 := ⟨sw_mem 834 (by decide +kernel) rfl, sw_mem 97 (by decide +kernel) rfl, sw_mem 835 rfl rfl, ⟨by decide +kernel, by decide +kernel, by decide +kernel⟩⟩
set_option maxRecDepth 50000 in
theorem wv_X8_put : sw_V yX8_put cX8_put 2 none 1 := ⟨sw_mem 431 (by decide +kernel) rfl, sw_mem 432 (by decide +kernel) rfl, sw_mem 88 (by decide +kernel) rfl, sw_mem 433 rfl rfl, ⟨by decide +kernel, by decide +kernel, by decide +kernel⟩⟩
set_option maxRecDepth 50000 in
theorem wv_X1_empty : sw_V yX1_empty cX1_empty 2 none 1 := ⟨sw_mem 443 (by decide +kernel) rfl, sw_mem 444 (by decide +kernel) rfl, sw_mem 89 (by decide +kernel) rfl, sw_mem 445 rfl rfl, ⟨by decide +kernel, by decide +kernel, by decide +kernel⟩⟩
set_option maxRecDepth 50000 in
theorem wv_X1_canBeWish : sw_V yX1_canBeWish cX1_canBeWish 2 (some .boolean) 1 := ⟨sw_mem 549 (by decide +kernel) rfl, sw_mem 550 (by decide +kernel) rfl, sw_mem 89 (by decide +kernel) rfl, sw_mem 551 rfl rfl, ⟨by decide +kernel, by decide +kernel, by decide +kernel⟩⟩
set_option maxRecDepth 50000 in
theorem wv_X1_hasRider : sw_V yX1_hasRider cX1_hasRider 2 (some .boolean) 1 := ⟨sw_mem 544 (by decide +kernel) rfl, sw_mem 545 (by decide +kernel) rfl, sw_mem 89 (by decide +kernel) rfl, sw_mem 546 rfl rfl, ⟨by decide +kernel, by decide +kernel, by decide +kernel⟩⟩
set_option maxRecDepth 50000 in
theorem wv_X3_stands : sw_V yX3_stands cX3_stands 2 (some .boolean) 1 := ⟨sw_mem 580 (by decide +kernel) rfl, sw_mem 581 (by decide +kernel) rfl, sw_mem 92 (by decide +kernel) rfl, sw_mem 582 rfl rfl, ⟨by decide +kernel, by decide +kernel, by decide +kernel⟩⟩
set_option maxRecDepth 50000 in
theorem wv_X4_prepare : sw_V yX4_prepare cX4_prepare 2 none 1 := ⟨sw_mem 588 (by decide +kernel) rfl, sw_mem 589 (by decide +kernel) rfl, sw_mem 94 (by decide +kernel) rfl, sw_mem 590 rfl rfl, ⟨by decide +kernel, by decide +kernel, by decide +kernel⟩⟩
set_option maxRecDepth 50000 in
theorem wv_X4_commit : sw_V yX4_commit cX4_commit 1 none 0 := ⟨sw_mem 599 (by decide +kernel) rfl, sw_mem 600 (by decide +kernel) rfl, sw_mem 94 (by decide +kernel) rfl, sw_mem 601 rfl rfl, ⟨by decide +kernel, by decide +kernel, by decide +kernel⟩⟩
set_option maxRecDepth 50000 in
theorem wv_X4_bringBack : sw_V yX4_bringBack cX4_bringBack 2 (some .boolean) 1 := ⟨sw_mem 709 (by decide +kernel) rfl, sw_mem 710 (by decide +kernel) rfl, sw_mem 94 (by decide +kernel) rfl, sw_mem 711 rfl rfl, ⟨by decide +kernel, by decide +kernel, by decide +kernel⟩⟩
set_option maxRecDepth 50000 in
theorem wv_X3_onFloor : sw_V yX3_onFloor cX3_onFloor 4 (some .int) 1 := ⟨sw_mem 722 (by decide +kernel) rfl, sw_mem 723 (by decide +kernel) rfl, sw_mem 92 (by decide +kernel) rfl, sw_mem 724 rfl rfl, ⟨by decide +kernel, by decide +kernel, by decide +kernel⟩⟩
set_option maxRecDepth 50000 in
theorem wv_X1_everybody : sw_V yX1_everybody cX1_everybody 1 (some .int) 0 := ⟨sw_mem 800 (by decide +kernel) rfl, sw_mem 801 (by decide +kernel) rfl, sw_mem 89 (by decide +kernel) rfl, sw_mem 802 rfl rfl, ⟨by decide +kernel, by decide +kernel, by decide +kernel⟩⟩
set_option maxRecDepth 50000 in
theorem wv_X6_wantGathered : sw_V yX6_wantGathered cX6_wantGathered 3 none 2 := ⟨sw_mem 882 (by decide +kernel) rfl, sw_mem 883 (by decide +kernel) rfl, sw_mem 97 (by decide +kernel) rfl, sw_mem 884 rfl rfl, ⟨by decide +kernel, by decide +kernel, by decide +kernel⟩⟩
set_option maxRecDepth 50000 in
theorem wv_X6_wantNothing : sw_V yX6_wantNothing cX6_wantNothing 1 none 0 := ⟨sw_mem 890 (by decide +kernel) rfl, sw_mem 891 (by decide +kernel) rfl, sw_mem 97 (by decide +kernel) rfl, sw_mem 892 rfl rfl, ⟨by decide +kernel, by decide +kernel, by decide +kernel⟩⟩
set_option maxRecDepth 50000 in
theorem wv_X7_add : sw_V yX7_add cX7_add 4 none 3 := ⟨sw_mem 910 (by decide +kernel) rfl, sw_mem 911 (by decide +kernel) rfl, sw_mem 95 (by decide +kernel) rfl, sw_mem 912 rfl rfl, ⟨by decide +kernel, by decide +kernel, by decide +kernel⟩⟩
set_option maxRecDepth 50000 in
theorem wv_X7_believe : sw_V yX7_believe cX7_believe 2 none 1 := ⟨sw_mem 922 (by decide +kernel) rfl, sw_mem 923 (by decide +kernel) rfl, sw_mem 95 (by decide +kernel) rfl, sw_mem 924 rfl rfl, ⟨by decide +kernel, by decide +kernel, by decide +kernel⟩⟩
set_option maxRecDepth 50000 in
theorem wv_X9_tell : sw_V yX9_tell cX9_tell 3 none 1 := ⟨sw_mem 658 (by decide +kernel) rfl, sw_mem 10 (by decide +kernel) rfl, sw_mem 87 (by decide +kernel) rfl, sw_mem 659 rfl rfl, ⟨by decide +kernel, by decide +kernel, by decide +kernel⟩⟩
set_option maxRecDepth 50000 in
theorem wv_X8_at : sw_V yX8_at cX8_at 2 (some .int) 1 := ⟨sw_mem 466 (by decide +kernel) rfl, sw_mem 467 (by decide +kernel) rfl, sw_mem 88 (by decide +kernel) rfl, sw_mem 468 rfl rfl, ⟨by decide +kernel, by decide +kernel, by decide +kernel⟩⟩
set_option maxRecDepth 50000 in
theorem wv_X9_nextSet : sw_S yX9_nextSet cX9_nextSet 2 (some .int) 2 := ⟨sw_mem 743 (by decide +kernel) rfl, sw_mem 87 (by decide +kernel) rfl, sw_mem 744 rfl rfl, ⟨by decide +kernel, by decide +kernel, by decide +kernel⟩⟩
set_option maxRecDepth 50000 in
theorem wv_X9_clearRow : sw_V yX9_clearRow cX9_clearRow 1 none 0 := ⟨sw_mem 654 (by decide +kernel) rfl, sw_mem 9 (by decide +kernel) rfl, sw_mem 87 (by decide +kernel) rfl, sw_mem 655 rfl rfl, ⟨by decide +kernel, by decide +kernel, by decide +kernel⟩⟩
set_option maxRecDepth 50000 in
theorem wv_X6_wantHome : sw_V yX6_wantHome cX6_wantHome 2 none 1 := ⟨sw_mem 808 (by decide +kernel) rfl, sw_mem 809 (by decide +kernel) rfl, sw_mem 97 (by decide +kernel) rfl, sw_mem 810 rfl rfl, ⟨by decide +kernel, by decide +kernel, by decide +kernel⟩⟩
set_option maxRecDepth 50000 in
theorem wv_X6_cameFrom : sw_V yX6_cameFrom cX6_cameFrom 2 (some .int) 1 := ⟨sw_mem 869 (by decide +kernel) rfl, sw_mem 870 (by decide +kernel) rfl, sw_mem 97 (by decide +kernel) rfl, sw_mem 871 rfl rfl, ⟨by decide +kernel, by decide +kernel, by decide +kernel⟩⟩
set_option maxRecDepth 50000 in
theorem wv_X6_taken : sw_V yX6_taken cX6_taken 2 (some .int) 1 := ⟨sw_mem 865 (by decide +kernel) rfl, sw_mem 866 (by decide +kernel) rfl, sw_mem 97 (by decide +kernel) rfl, sw_mem 867 rfl rfl, ⟨by decide +kernel, by decide +kernel, by decide +kernel⟩⟩
set_option maxRecDepth 50000 in
theorem wv_X10_enters : sw_V yX10_enters cX10_enters 3 none 1 := ⟨sw_mem 1340 (by decide +kernel) rfl, sw_mem 59 (by decide +kernel) rfl, sw_mem 98 (by decide +kernel) rfl, sw_mem 1341 rfl rfl, ⟨by decide +kernel, by decide +kernel, by decide +kernel⟩⟩
set_option maxRecDepth 50000 in
theorem wv_X10_in : sw_S yX10_in cX10_in 6 (some .boolean) 3 := ⟨sw_mem 1114 (by decide +kernel) rfl, sw_mem 98 (by decide +kernel) rfl, sw_mem 1115 rfl rfl, ⟨by decide +kernel, by decide +kernel, by decide +kernel⟩⟩
set_option maxRecDepth 50000 in
theorem wv_X10_flag : sw_S yX10_flag cX10_flag 1 (some .int) 1 := ⟨sw_mem 1155 (by decide +kernel) rfl, sw_mem 98 (by decide +kernel) rfl, sw_mem 1156 rfl rfl, ⟨by decide +kernel, by decide +kernel, by decide +kernel⟩⟩
set_option maxRecDepth 50000 in
theorem wv_X10_isDigit : sw_V yX10_isDigit cX10_isDigit 1 (some .boolean) 0 := ⟨sw_mem 1142 (by decide +kernel) rfl, sw_mem 37 (by decide +kernel) rfl, sw_mem 98 (by decide +kernel) rfl, sw_mem 1143 rfl rfl, ⟨by decide +kernel, by decide +kernel, by decide +kernel⟩⟩
set_option maxRecDepth 50000 in
theorem wv_X10_isFloor : sw_V yX10_isFloor cX10_isFloor 2 (some .boolean) 1 := ⟨sw_mem 1148 (by decide +kernel) rfl, sw_mem 38 (by decide +kernel) rfl, sw_mem 98 (by decide +kernel) rfl, sw_mem 1149 rfl rfl, ⟨by decide +kernel, by decide +kernel, by decide +kernel⟩⟩
set_option maxRecDepth 50000 in
theorem wv_X10_takes : sw_V yX10_takes cX10_takes 3 (some .boolean) 1 := ⟨sw_mem 1152 (by decide +kernel) rfl, sw_mem 39 (by decide +kernel) rfl, sw_mem 98 (by decide +kernel) rfl, sw_mem 1153 rfl rfl, ⟨by decide +kernel, by decide +kernel, by decide +kernel⟩⟩
set_option maxRecDepth 50000 in
theorem wv_X10_readsFloor : sw_V yX10_readsFloor cX10_readsFloor 1 (some .int) 0 := ⟨sw_mem 1138 (by decide +kernel) rfl, sw_mem 36 (by decide +kernel) rfl, sw_mem 98 (by decide +kernel) rfl, sw_mem 1139 rfl rfl, ⟨by decide +kernel, by decide +kernel, by decide +kernel⟩⟩
set_option maxRecDepth 50000 in
theorem wv_X10_faultOf : sw_V yX10_faultOf cX10_faultOf 5 (some .int) 3 := ⟨sw_mem 1159 (by decide +kernel) rfl, sw_mem 40 (by decide +kernel) rfl, sw_mem 98 (by decide +kernel) rfl, sw_mem 1160 rfl rfl, ⟨by decide +kernel, by decide +kernel, by decide +kernel⟩⟩
set_option maxRecDepth 50000 in
theorem wv_X10_begins : sw_V yX10_begins cX10_begins 3 (some .int) 1 := ⟨sw_mem 1128 (by decide +kernel) rfl, sw_mem 34 (by decide +kernel) rfl, sw_mem 98 (by decide +kernel) rfl, sw_mem 1130 rfl rfl, ⟨by decide +kernel, by decide +kernel, by decide +kernel⟩⟩
set_option maxRecDepth 50000 in
theorem wv_X10_has : sw_S yX10_has cX10_has 2 (some .boolean) 2 := ⟨sw_mem 1252 (by decide +kernel) rfl, sw_mem 98 (by decide +kernel) rfl, sw_mem 1253 rfl rfl, ⟨by decide +kernel, by decide +kernel, by decide +kernel⟩⟩
set_option maxRecDepth 50000 in
theorem wv_X10_thingOf : sw_V yX10_thingOf cX10_thingOf 3 (some .int) 2 := ⟨sw_mem 1335 (by decide +kernel) rfl, sw_mem 58 (by decide +kernel) rfl, sw_mem 98 (by decide +kernel) rfl, sw_mem 1336 rfl rfl, ⟨by decide +kernel, by decide +kernel, by decide +kernel⟩⟩
set_option maxRecDepth 50000 in
theorem wv_X10_worked : sw_S yX10_worked cX10_worked 3 (some .int) 3 := ⟨sw_mem 1331 (by decide +kernel) rfl, sw_mem 98 (by decide +kernel) rfl, sw_mem 1332 rfl rfl, ⟨by decide +kernel, by decide +kernel, by decide +kernel⟩⟩
set_option maxRecDepth 50000 in
theorem wv_X10_lawFor : sw_V yX10_lawFor cX10_lawFor 5 (some .int) 1 := ⟨sw_mem 1328 (by decide +kernel) rfl, sw_mem 57 (by decide +kernel) rfl, sw_mem 98 (by decide +kernel) rfl, sw_mem 1329 rfl rfl, ⟨by decide +kernel, by decide +kernel, by decide +kernel⟩⟩
set_option maxRecDepth 50000 in
theorem wv_X10_leastStop : sw_V yX10_leastStop cX10_leastStop 6 (some .int) 0 := ⟨sw_mem 1324 (by decide +kernel) rfl, sw_mem 56 (by decide +kernel) rfl, sw_mem 98 (by decide +kernel) rfl, sw_mem 1325 rfl rfl, ⟨by decide +kernel, by decide +kernel, by decide +kernel⟩⟩
set_option maxRecDepth 50000 in
theorem wv_X10_refuse : sw_V yX10_refuse cX10_refuse 1 (some .int) 0 := ⟨sw_mem 1249 (by decide +kernel) rfl, sw_mem 47 (by decide +kernel) rfl, sw_mem 98 (by decide +kernel) rfl, sw_mem 1250 rfl rfl, ⟨by decide +kernel, by decide +kernel, by decide +kernel⟩⟩
set_option maxRecDepth 50000 in
theorem wv_X10_isRider : sw_V yX10_isRider cX10_isRider 2 (some .boolean) 1 := ⟨sw_mem 1244 (by decide +kernel) rfl, sw_mem 46 (by decide +kernel) rfl, sw_mem 98 (by decide +kernel) rfl, sw_mem 1245 rfl rfl, ⟨by decide +kernel, by decide +kernel, by decide +kernel⟩⟩
set_option maxRecDepth 50000 in
theorem wv_X10_draws : sw_V yX10_draws cX10_draws 2 (some .int) 1 := ⟨sw_mem 1274 (by decide +kernel) rfl, sw_mem 48 (by decide +kernel) rfl, sw_mem 98 (by decide +kernel) rfl, sw_mem 1275 rfl rfl, ⟨by decide +kernel, by decide +kernel, by decide +kernel⟩⟩
set_option maxRecDepth 50000 in
theorem wv_X10_comes : sw_V yX10_comes cX10_comes 5 none 4 := ⟨sw_mem 1163 (by decide +kernel) rfl, sw_mem 41 (by decide +kernel) rfl, sw_mem 98 (by decide +kernel) rfl, sw_mem 1164 rfl rfl, ⟨by decide +kernel, by decide +kernel, by decide +kernel⟩⟩
set_option maxRecDepth 50000 in
theorem wv_X10_canEnter : sw_V yX10_canEnter cX10_canEnter 2 (some .boolean) 1 := ⟨sw_mem 1287 (by decide +kernel) rfl, sw_mem 49 (by decide +kernel) rfl, sw_mem 98 (by decide +kernel) rfl, sw_mem 1288 rfl rfl, ⟨by decide +kernel, by decide +kernel, by decide +kernel⟩⟩
set_option maxRecDepth 50000 in
theorem wv_X10_putsBy : sw_V yX10_putsBy cX10_putsBy 2 none 0 := ⟨sw_mem 1291 (by decide +kernel) rfl, sw_mem 50 (by decide +kernel) rfl, sw_mem 98 (by decide +kernel) rfl, sw_mem 1292 rfl rfl, ⟨by decide +kernel, by decide +kernel, by decide +kernel⟩⟩
set_option maxRecDepth 50000 in
theorem wv_X10_adds : sw_V yX10_adds cX10_adds 2 none 0 := ⟨sw_mem 1295 (by decide +kernel) rfl, sw_mem 51 (by decide +kernel) rfl, sw_mem 98 (by decide +kernel) rfl, sw_mem 1296 rfl rfl, ⟨by decide +kernel, by decide +kernel, by decide +kernel⟩⟩
set_option maxRecDepth 50000 in
theorem wv_X10_canLeave : sw_V yX10_canLeave cX10_canLeave 2 (some .boolean) 1 := ⟨sw_mem 1303 (by decide +kernel) rfl, sw_mem 52 (by decide +kernel) rfl, sw_mem 98 (by decide +kernel) rfl, sw_mem 1304 rfl rfl, ⟨by decide +kernel, by decide +kernel, by decide +kernel⟩⟩
set_option maxRecDepth 50000 in
theorem wv_X10_among : sw_V yX10_among cX10_among 3 (some .int) 1 := ⟨sw_mem 1184 (by decide +kernel) rfl, sw_mem 45 (by decide +kernel) rfl, sw_mem 98 (by decide +kernel) rfl, sw_mem 1185 rfl rfl, ⟨by decide +kernel, by decide +kernel, by decide +kernel⟩⟩
set_option maxRecDepth 50000 in
theorem wv_X10_there : sw_V yX10_there cX10_there 4 (some .int) 1 := ⟨sw_mem 1370 (by decide +kernel) rfl, sw_mem 62 (by decide +kernel) rfl, sw_mem 98 (by decide +kernel) rfl, sw_mem 1371 rfl rfl, ⟨by decide +kernel, by decide +kernel, by decide +kernel⟩⟩
set_option maxRecDepth 50000 in
theorem wv_X10_packed : sw_V yX10_packed cX10_packed 5 (some .long) 1 := ⟨sw_mem 1453 (by decide +kernel) rfl, sw_mem 70 (by decide +kernel) rfl, sw_mem 98 (by decide +kernel) rfl, sw_mem 1454 rfl rfl, ⟨by decide +kernel, by decide +kernel, by decide +kernel⟩⟩
set_option maxRecDepth 50000 in
theorem wv_X10_slotOf : sw_V yX10_slotOf cX10_slotOf 4 (some .int) 1 := ⟨sw_mem 1457 (by decide +kernel) rfl, sw_mem 71 (by decide +kernel) rfl, sw_mem 98 (by decide +kernel) rfl, sw_mem 1458 rfl rfl, ⟨by decide +kernel, by decide +kernel, by decide +kernel⟩⟩
set_option maxRecDepth 50000 in
theorem wv_X10_puts : sw_S yX10_puts cX10_puts 3 none 2 := ⟨sw_mem 1406 (by decide +kernel) rfl, sw_mem 98 (by decide +kernel) rfl, sw_mem 1407 rfl rfl, ⟨by decide +kernel, by decide +kernel, by decide +kernel⟩⟩
set_option maxRecDepth 50000 in
theorem wv_X10_finds : sw_V yX10_finds cX10_finds 6 none 2 := ⟨sw_mem 1449 (by decide +kernel) rfl, sw_mem 69 (by decide +kernel) rfl, sw_mem 98 (by decide +kernel) rfl, sw_mem 1450 rfl rfl, ⟨by decide +kernel, by decide +kernel, by decide +kernel⟩⟩
set_option maxRecDepth 50000 in
theorem wv_X10_unpacks : sw_V yX10_unpacks cX10_unpacks 5 none 1 := ⟨sw_mem 1468 (by decide +kernel) rfl, sw_mem 73 (by decide +kernel) rfl, sw_mem 98 (by decide +kernel) rfl, sw_mem 1469 rfl rfl, ⟨by decide +kernel, by decide +kernel, by decide +kernel⟩⟩
set_option maxRecDepth 50000 in
theorem wv_X10_homeBits : sw_V yX10_homeBits cX10_homeBits 4 (some .int) 1 := ⟨sw_mem 1474 (by decide +kernel) rfl, sw_mem 74 (by decide +kernel) rfl, sw_mem 98 (by decide +kernel) rfl, sw_mem 1475 rfl rfl, ⟨by decide +kernel, by decide +kernel, by decide +kernel⟩⟩
set_option maxRecDepth 50000 in
theorem wv_X10_entersFraction : sw_V yX10_entersFraction cX10_entersFraction 7 none 2 := ⟨sw_mem 1561 (by decide +kernel) rfl, sw_mem 84 (by decide +kernel) rfl, sw_mem 98 (by decide +kernel) rfl, sw_mem 1562 rfl rfl, ⟨by decide +kernel, by decide +kernel, by decide +kernel⟩⟩
set_option maxRecDepth 50000 in
theorem wv_X10_bets : sw_V yX10_bets cX10_bets 4 none 2 := ⟨sw_mem 1557 (by decide +kernel) rfl, sw_mem 83 (by decide +kernel) rfl, sw_mem 98 (by decide +kernel) rfl, sw_mem 1558 rfl rfl, ⟨by decide +kernel, by decide +kernel, by decide +kernel⟩⟩
set_option maxRecDepth 50000 in
theorem wv_X10_codes : sw_V yX10_codes cX10_codes 2 none 1 := ⟨sw_mem 1179 (by decide +kernel) rfl, sw_mem 44 (by decide +kernel) rfl, sw_mem 98 (by decide +kernel) rfl, sw_mem 1180 rfl rfl, ⟨by decide +kernel, by decide +kernel, by decide +kernel⟩⟩
set_option maxRecDepth 50000 in
theorem wv_X10_readsRank : sw_V yX10_readsRank cX10_readsRank 4 (some .boolean) 1 := ⟨sw_mem 1171 (by decide +kernel) rfl, sw_mem 42 (by decide +kernel) rfl, sw_mem 98 (by decide +kernel) rfl, sw_mem 1172 rfl rfl, ⟨by decide +kernel, by decide +kernel, by decide +kernel⟩⟩
set_option maxRecDepth 50000 in
theorem wv_X10_readsThing : sw_V yX10_readsThing cX10_readsThing 3 (some .boolean) 0 := ⟨sw_mem 1175 (by decide +kernel) rfl, sw_mem 43 (by decide +kernel) rfl, sw_mem 98 (by decide +kernel) rfl, sw_mem 1176 rfl rfl, ⟨by decide +kernel, by decide +kernel, by decide +kernel⟩⟩
set_option maxRecDepth 50000 in
theorem wv_X8_flawAtEnd : sw_V yX8_flawAtEnd cX8_flawAtEnd 3 (some .int) 2 := ⟨sw_mem 478 (by decide +kernel) rfl, sw_mem 479 (by decide +kernel) rfl, sw_mem 88 (by decide +kernel) rfl, sw_mem 480 rfl rfl, ⟨by decide +kernel, by decide +kernel, by decide +kernel⟩⟩
set_option maxRecDepth 50000 in
theorem wv_X0_placeBehind : sw_S yX0_placeBehind cX0_placeBehind 1 (some .int) 1 := ⟨sw_mem 677 (by decide +kernel) rfl, sw_mem 96 (by decide +kernel) rfl, sw_mem 678 rfl rfl, ⟨by decide +kernel, by decide +kernel, by decide +kernel⟩⟩
set_option maxRecDepth 50000 in
theorem wv_X0_isLetter : sw_S yX0_isLetter cX0_isLetter 1 (some .boolean) 1 := ⟨sw_mem 680 (by decide +kernel) rfl, sw_mem 96 (by decide +kernel) rfl, sw_mem 681 rfl rfl, ⟨by decide +kernel, by decide +kernel, by decide +kernel⟩⟩
set_option maxRecDepth 50000 in
theorem wv_X1_addAt : sw_S yX1_addAt cX1_addAt 2 none 2 := ⟨sw_mem 632 (by decide +kernel) rfl, sw_mem 89 (by decide +kernel) rfl, sw_mem 633 rfl rfl, ⟨by decide +kernel, by decide +kernel, by decide +kernel⟩⟩
set_option maxRecDepth 50000 in
theorem wv_J7_fill_53178 : sw_S yJ7_fill_53178 cJ7_fill_53178 4 none 2 := ⟨sw_mem 238 (by decide +kernel) rfl, sw_mem 93 (by decide +kernel) rfl, sw_mem 239 rfl rfl, ⟨by decide +kernel, by decide +kernel, by decide +kernel⟩⟩
set_option maxRecDepth 50000 in
theorem wv_J6_bitCount_0f7a4 : sw_S yJ6_bitCount_0f7a4 cJ6_bitCount_0f7a4 1 (some .int) 1 := ⟨sw_mem 626 (by decide +kernel) rfl, sw_mem 109 (by decide +kernel) rfl, sw_mem 627 rfl rfl, ⟨by decide +kernel, by decide +kernel, by decide +kernel⟩⟩
set_option maxRecDepth 50000 in
theorem wv_X1_nextPlace : sw_V yX1_nextPlace cX1_nextPlace 4 (some .int) 3 := ⟨sw_mem 471 (by decide +kernel) rfl, sw_mem 1 (by decide +kernel) rfl, sw_mem 89 (by decide +kernel) rfl, sw_mem 472 rfl rfl, ⟨by decide +kernel, by decide +kernel, by decide +kernel⟩⟩
set_option maxRecDepth 50000 in
theorem wv_X2_isDigit : sw_S yX2_isDigit cX2_isDigit 1 (some .boolean) 1 := ⟨sw_mem 501 (by decide +kernel) rfl, sw_mem 90 (by decide +kernel) rfl, sw_mem 502 rfl rfl, ⟨by decide +kernel, by decide +kernel, by decide +kernel⟩⟩
set_option maxRecDepth 50000 in
theorem wv_X2_isName : sw_S yX2_isName cX2_isName 1 (some .boolean) 1 := ⟨sw_mem 504 (by decide +kernel) rfl, sw_mem 90 (by decide +kernel) rfl, sw_mem 505 rfl rfl, ⟨by decide +kernel, by decide +kernel, by decide +kernel⟩⟩
set_option maxRecDepth 50000 in
theorem wv_X2_joinsTwo : sw_S yX2_joinsTwo cX2_joinsTwo 1 (some .boolean) 1 := ⟨sw_mem 507 (by decide +kernel) rfl, sw_mem 90 (by decide +kernel) rfl, sw_mem 508 rfl rfl, ⟨by decide +kernel, by decide +kernel, by decide +kernel⟩⟩
set_option maxRecDepth 50000 in
theorem wv_X2_putDigit : sw_V yX2_putDigit cX2_putDigit 3 none 2 := ⟨sw_mem 519 (by decide +kernel) rfl, sw_mem 4 (by decide +kernel) rfl, sw_mem 90 (by decide +kernel) rfl, sw_mem 520 rfl rfl, ⟨by decide +kernel, by decide +kernel, by decide +kernel⟩⟩
set_option maxRecDepth 50000 in
theorem wv_X2_release : sw_V yX2_release cX2_release 2 none 1 := ⟨sw_mem 531 (by decide +kernel) rfl, sw_mem 7 (by decide +kernel) rfl, sw_mem 90 (by decide +kernel) rfl, sw_mem 532 rfl rfl, ⟨by decide +kernel, by decide +kernel, by decide +kernel⟩⟩
set_option maxRecDepth 50000 in
theorem wv_X2_await : sw_V yX2_await cX2_await 2 none 1 := ⟨sw_mem 527 (by decide +kernel) rfl, sw_mem 6 (by decide +kernel) rfl, sw_mem 90 (by decide +kernel) rfl, sw_mem 528 rfl rfl, ⟨by decide +kernel, by decide +kernel, by decide +kernel⟩⟩
set_option maxRecDepth 50000 in
theorem wv_X2_joined : sw_S yX2_joined cX2_joined 3 (some .int) 3 := ⟨sw_mem 642 (by decide +kernel) rfl, sw_mem 90 (by decide +kernel) rfl, sw_mem 643 rfl rfl, ⟨by decide +kernel, by decide +kernel, by decide +kernel⟩⟩
set_option maxRecDepth 50000 in
theorem wv_X2_named : sw_S yX2_named cX2_named 3 (some .int) 3 := ⟨sw_mem 639 (by decide +kernel) rfl, sw_mem 90 (by decide +kernel) rfl, sw_mem 640 rfl rfl, ⟨by decide +kernel, by decide +kernel, by decide +kernel⟩⟩
set_option maxRecDepth 50000 in
theorem wv_X3_clear : sw_V yX3_clear cX3_clear 1 none 0 := ⟨sw_mem 447 (by decide +kernel) rfl, sw_mem 448 (by decide +kernel) rfl, sw_mem 92 (by decide +kernel) rfl, sw_mem 449 rfl rfl, ⟨by decide +kernel, by decide +kernel, by decide +kernel⟩⟩
set_option maxRecDepth 50000 in
theorem wv_X9_forgetWhatWas : sw_V yX9_forgetWhatWas cX9_forgetWhatWas 2 none 0 := ⟨sw_mem 452 (by decide +kernel) rfl, sw_mem 0 (by decide +kernel) rfl, sw_mem 87 (by decide +kernel) rfl, sw_mem 453 rfl rfl, ⟨by decide +kernel, by decide +kernel, by decide +kernel⟩⟩
set_option maxRecDepth 50000 in
theorem wv_X1_flawOfLines : sw_V yX1_flawOfLines cX1_flawOfLines 9 (some .int) 2 := ⟨sw_mem 459 (by decide +kernel) rfl, sw_mem 460 (by decide +kernel) rfl, sw_mem 89 (by decide +kernel) rfl, sw_mem 461 rfl rfl, ⟨by decide +kernel, by decide +kernel, by decide +kernel⟩⟩
set_option maxRecDepth 50000 in
theorem wv_X2_flawOf : sw_V yX2_flawOf cX2_flawOf 9 (some .int) 1 := ⟨sw_mem 495 (by decide +kernel) rfl, sw_mem 496 (by decide +kernel) rfl, sw_mem 90 (by decide +kernel) rfl, sw_mem 497 rfl rfl, ⟨by decide +kernel, by decide +kernel, by decide +kernel⟩⟩
set_option maxRecDepth 50000 in
theorem wv_X2_take : sw_V yX2_take cX2_take 5 none 1 := ⟨sw_mem 514 (by decide +kernel) rfl, sw_mem 515 (by decide +kernel) rfl, sw_mem 90 (by decide +kernel) rfl, sw_mem 516 rfl rfl, ⟨by decide +kernel, by decide +kernel, by decide +kernel⟩⟩
set_option maxRecDepth 50000 in
theorem wv_X9_asKind : sw_S yX9_asKind cX9_asKind 2 (some .int) 2 := ⟨sw_mem 557 (by decide +kernel) rfl, sw_mem 87 (by decide +kernel) rfl, sw_mem 558 rfl rfl, ⟨by decide +kernel, by decide +kernel, by decide +kernel⟩⟩
set_option maxRecDepth 50000 in
theorem wv_X9_nextDrawn : sw_S yX9_nextDrawn cX9_nextDrawn 1 (some .int) 1 := ⟨sw_mem 568 (by decide +kernel) rfl, sw_mem 87 (by decide +kernel) rfl, sw_mem 569 rfl rfl, ⟨by decide +kernel, by decide +kernel, by decide +kernel⟩⟩
set_option maxRecDepth 50000 in
theorem wv_X9_ofFloors : sw_V yX9_ofFloors cX9_ofFloors 3 (some .int) 1 := ⟨sw_mem 573 (by decide +kernel) rfl, sw_mem 8 (by decide +kernel) rfl, sw_mem 87 (by decide +kernel) rfl, sw_mem 574 rfl rfl, ⟨by decide +kernel, by decide +kernel, by decide +kernel⟩⟩
set_option maxRecDepth 50000 in
theorem wv_X9_addRider : sw_V yX9_addRider cX9_addRider 6 none 4 := ⟨sw_mem 488 (by decide +kernel) rfl, sw_mem 3 (by decide +kernel) rfl, sw_mem 87 (by decide +kernel) rfl, sw_mem 489 rfl rfl, ⟨by decide +kernel, by decide +kernel, by decide +kernel⟩⟩
set_option maxRecDepth 50000 in
theorem wv_X2_worth : sw_V yX2_worth cX2_worth 6 (some .int) 2 := ⟨sw_mem 635 (by decide +kernel) rfl, sw_mem 636 (by decide +kernel) rfl, sw_mem 90 (by decide +kernel) rfl, sw_mem 637 rfl rfl, ⟨by decide +kernel, by decide +kernel, by decide +kernel⟩⟩
set_option maxRecDepth 50000 in
theorem wv_X9_tellFraction : sw_V yX9_tellFraction cX9_tellFraction 12 none 2 := ⟨sw_mem 988 (by decide +kernel) rfl, sw_mem 32 (by decide +kernel) rfl, sw_mem 87 (by decide +kernel) rfl, sw_mem 989 rfl rfl, ⟨by decide +kernel, by decide +kernel, by decide +kernel⟩⟩
set_option maxRecDepth 50000 in
theorem wv_X9_weightOf : sw_V yX9_weightOf cX9_weightOf 6 (some .long) 1 := ⟨sw_mem 984 (by decide +kernel) rfl, sw_mem 31 (by decide +kernel) rfl, sw_mem 87 (by decide +kernel) rfl, sw_mem 985 rfl rfl, ⟨by decide +kernel, by decide +kernel, by decide +kernel⟩⟩
set_option maxRecDepth 50000 in
theorem wv_X10_readsRider : sw_V yX10_readsRider cX10_readsRider 2 (some .boolean) 0 := ⟨sw_mem 1134 (by decide +kernel) rfl, sw_mem 35 (by decide +kernel) rfl, sw_mem 98 (by decide +kernel) rfl, sw_mem 1135 rfl rfl, ⟨by decide +kernel, by decide +kernel, by decide +kernel⟩⟩
set_option maxRecDepth 50000 in
theorem wv_X10_looks : sw_V yX10_looks cX10_looks 4 none 2 := ⟨sw_mem 1319 (by decide +kernel) rfl, sw_mem 55 (by decide +kernel) rfl, sw_mem 98 (by decide +kernel) rfl, sw_mem 1320 rfl rfl, ⟨by decide +kernel, by decide +kernel, by decide +kernel⟩⟩
set_option maxRecDepth 50000 in
theorem wv_X10_stopOf : sw_V yX10_stopOf cX10_stopOf 4 (some .int) 2 := ⟨sw_mem 1315 (by decide +kernel) rfl, sw_mem 54 (by decide +kernel) rfl, sw_mem 98 (by decide +kernel) rfl, sw_mem 1316 rfl rfl, ⟨by decide +kernel, by decide +kernel, by decide +kernel⟩⟩
set_option maxRecDepth 50000 in
theorem wv_X10_travels : sw_V yX10_travels cX10_travels 6 (some .int) 2 := ⟨sw_mem 1311 (by decide +kernel) rfl, sw_mem 53 (by decide +kernel) rfl, sw_mem 98 (by decide +kernel) rfl, sw_mem 1312 rfl rfl, ⟨by decide +kernel, by decide +kernel, by decide +kernel⟩⟩
set_option maxRecDepth 50000 in
theorem wv_X10_does : sw_V yX10_does cX10_does 4 (some .boolean) 1 := ⟨sw_mem 1358 (by decide +kernel) rfl, sw_mem 61 (by decide +kernel) rfl, sw_mem 98 (by decide +kernel) rfl, sw_mem 1359 rfl rfl, ⟨by decide +kernel, by decide +kernel, by decide +kernel⟩⟩
set_option maxRecDepth 50000 in
theorem wv_X10_readsAct : sw_V yX10_readsAct cX10_readsAct 4 (some .boolean) 0 := ⟨sw_mem 1353 (by decide +kernel) rfl, sw_mem 60 (by decide +kernel) rfl, sw_mem 98 (by decide +kernel) rfl, sw_mem 1354 rfl rfl, ⟨by decide +kernel, by decide +kernel, by decide +kernel⟩⟩
set_option maxRecDepth 50000 in
theorem wv_X10_fewestOf : sw_V yX10_fewestOf cX10_fewestOf 6 (some .int) 2 := ⟨sw_mem 1386 (by decide +kernel) rfl, sw_mem 63 (by decide +kernel) rfl, sw_mem 98 (by decide +kernel) rfl, sw_mem 1387 rfl rfl, ⟨by decide +kernel, by decide +kernel, by decide +kernel⟩⟩
set_option maxRecDepth 50000 in
theorem wv_X10_bestWish : sw_V yX10_bestWish cX10_bestWish 7 (some .int) 2 := ⟨sw_mem 1398 (by decide +kernel) rfl, sw_mem 64 (by decide +kernel) rfl, sw_mem 98 (by decide +kernel) rfl, sw_mem 1399 rfl rfl, ⟨by decide +kernel, by decide +kernel, by decide +kernel⟩⟩
set_option maxRecDepth 50000 in
theorem wv_X10_countsRides : sw_V yX10_countsRides cX10_countsRides 3 (some .boolean) 0 := ⟨sw_mem 1419 (by decide +kernel) rfl, sw_mem 65 (by decide +kernel) rfl, sw_mem 98 (by decide +kernel) rfl, sw_mem 1420 rfl rfl, ⟨by decide +kernel, by decide +kernel, by decide +kernel⟩⟩
set_option maxRecDepth 50000 in
theorem wv_X10_comeHome : sw_V yX10_comeHome cX10_comeHome 5 (some .int) 2 := ⟨sw_mem 1428 (by decide +kernel) rfl, sw_mem 66 (by decide +kernel) rfl, sw_mem 98 (by decide +kernel) rfl, sw_mem 1429 rfl rfl, ⟨by decide +kernel, by decide +kernel, by decide +kernel⟩⟩
set_option maxRecDepth 50000 in
theorem wv_X10_findsFrom : sw_V yX10_findsFrom cX10_findsFrom 4 none 1 := ⟨sw_mem 1478 (by decide +kernel) rfl, sw_mem 75 (by decide +kernel) rfl, sw_mem 98 (by decide +kernel) rfl, sw_mem 1479 rfl rfl, ⟨by decide +kernel, by decide +kernel, by decide +kernel⟩⟩
set_option maxRecDepth 50000 in
theorem wv_X10_isAim : sw_V yX10_isAim cX10_isAim 2 (some .boolean) 1 := ⟨sw_mem 1464 (by decide +kernel) rfl, sw_mem 72 (by decide +kernel) rfl, sw_mem 98 (by decide +kernel) rfl, sw_mem 1465 rfl rfl, ⟨by decide +kernel, by decide +kernel, by decide +kernel⟩⟩
set_option maxRecDepth 50000 in
theorem wv_X10_findsFirst : sw_V yX10_findsFirst cX10_findsFirst 2 none 0 := ⟨sw_mem 1445 (by decide +kernel) rfl, sw_mem 68 (by decide +kernel) rfl, sw_mem 98 (by decide +kernel) rfl, sw_mem 1446 rfl rfl, ⟨by decide +kernel, by decide +kernel, by decide +kernel⟩⟩
set_option maxRecDepth 50000 in
theorem wv_X10_seeks : sw_V yX10_seeks cX10_seeks 4 (some .int) 1 := ⟨sw_mem 1441 (by decide +kernel) rfl, sw_mem 67 (by decide +kernel) rfl, sw_mem 98 (by decide +kernel) rfl, sw_mem 1442 rfl rfl, ⟨by decide +kernel, by decide +kernel, by decide +kernel⟩⟩
set_option maxRecDepth 50000 in
theorem wv_X10_tellsWay : sw_V yX10_tellsWay cX10_tellsWay 5 (some .int) 1 := ⟨sw_mem 1482 (by decide +kernel) rfl, sw_mem 76 (by decide +kernel) rfl, sw_mem 98 (by decide +kernel) rfl, sw_mem 1483 rfl rfl, ⟨by decide +kernel, by decide +kernel, by decide +kernel⟩⟩
set_option maxRecDepth 50000 in
theorem wv_X10_findsAll : sw_V yX10_findsAll cX10_findsAll 3 (some .int) 1 := ⟨sw_mem 1499 (by decide +kernel) rfl, sw_mem 77 (by decide +kernel) rfl, sw_mem 98 (by decide +kernel) rfl, sw_mem 1500 rfl rfl, ⟨by decide +kernel, by decide +kernel, by decide +kernel⟩⟩
set_option maxRecDepth 50000 in
theorem wv_X10_isSo : sw_V yX10_isSo cX10_isSo 3 (some .boolean) 1 := ⟨sw_mem 1520 (by decide +kernel) rfl, sw_mem 78 (by decide +kernel) rfl, sw_mem 98 (by decide +kernel) rfl, sw_mem 1521 rfl rfl, ⟨by decide +kernel, by decide +kernel, by decide +kernel⟩⟩
set_option maxRecDepth 50000 in
theorem wv_X10_areSo : sw_V yX10_areSo cX10_areSo 3 (some .boolean) 0 := ⟨sw_mem 1528 (by decide +kernel) rfl, sw_mem 79 (by decide +kernel) rfl, sw_mem 98 (by decide +kernel) rfl, sw_mem 1529 rfl rfl, ⟨by decide +kernel, by decide +kernel, by decide +kernel⟩⟩
set_option maxRecDepth 50000 in
theorem wv_X10_tellsLies : sw_V yX10_tellsLies cX10_tellsLies 5 (some .boolean) 2 := ⟨sw_mem 1536 (by decide +kernel) rfl, sw_mem 80 (by decide +kernel) rfl, sw_mem 98 (by decide +kernel) rfl, sw_mem 1537 rfl rfl, ⟨by decide +kernel, by decide +kernel, by decide +kernel⟩⟩
set_option maxRecDepth 50000 in
theorem wv_X10_isTruly : sw_V yX10_isTruly cX10_isTruly 5 (some .boolean) 2 := ⟨sw_mem 1544 (by decide +kernel) rfl, sw_mem 81 (by decide +kernel) rfl, sw_mem 98 (by decide +kernel) rfl, sw_mem 1545 rfl rfl, ⟨by decide +kernel, by decide +kernel, by decide +kernel⟩⟩
set_option maxRecDepth 50000 in
theorem wv_X10_rideAlone : sw_V yX10_rideAlone cX10_rideAlone 4 (some .int) 2 := ⟨sw_mem 1576 (by decide +kernel) rfl, sw_mem 85 (by decide +kernel) rfl, sw_mem 98 (by decide +kernel) rfl, sw_mem 1577 rfl rfl, ⟨by decide +kernel, by decide +kernel, by decide +kernel⟩⟩
set_option maxRecDepth 50000 in
theorem wv_X0_nextPlace : sw_S yX0_nextPlace cX0_nextPlace 3 (some .int) 3 := ⟨sw_mem 674 (by decide +kernel) rfl, sw_mem 96 (by decide +kernel) rfl, sw_mem 675 rfl rfl, ⟨by decide +kernel, by decide +kernel, by decide +kernel⟩⟩
set_option maxRecDepth 50000 in
theorem wv_X0_pass : sw_V yX0_pass cX0_pass 8 (some .boolean) 4 := ⟨sw_mem 693 (by decide +kernel) rfl, sw_mem 12 (by decide +kernel) rfl, sw_mem 96 (by decide +kernel) rfl, sw_mem 694 rfl rfl, ⟨by decide +kernel, by decide +kernel, by decide +kernel⟩⟩
set_option maxRecDepth 50000 in
theorem wv_X1_look : sw_V yX1_look cX1_look 4 none 2 := ⟨sw_mem 621 (by decide +kernel) rfl, sw_mem 622 (by decide +kernel) rfl, sw_mem 89 (by decide +kernel) rfl, sw_mem 623 rfl rfl, ⟨by decide +kernel, by decide +kernel, by decide +kernel⟩⟩
set_option maxRecDepth 50000 in
theorem wv_X1_nextStop : sw_V yX1_nextStop cX1_nextStop 8 (some .int) 2 := ⟨sw_mem 617 (by decide +kernel) rfl, sw_mem 618 (by decide +kernel) rfl, sw_mem 89 (by decide +kernel) rfl, sw_mem 619 rfl rfl, ⟨by decide +kernel, by decide +kernel, by decide +kernel⟩⟩
set_option maxRecDepth 50000 in
theorem wv_X1_homeAt : sw_V yX1_homeAt cX1_homeAt 5 (some .int) 2 := ⟨sw_mem 648 (by decide +kernel) rfl, sw_mem 649 (by decide +kernel) rfl, sw_mem 89 (by decide +kernel) rfl, sw_mem 650 rfl rfl, ⟨by decide +kernel, by decide +kernel, by decide +kernel⟩⟩
set_option maxRecDepth 50000 in
theorem wv_X6_keyAfter : sw_V yX6_keyAfter cX6_keyAfter 8 (some .long) 3 := ⟨sw_mem 857 (by decide +kernel) rfl, sw_mem 26 (by decide +kernel) rfl, sw_mem 97 (by decide +kernel) rfl, sw_mem 858 rfl rfl, ⟨by decide +kernel, by decide +kernel, by decide +kernel⟩⟩
set_option maxRecDepth 50000 in
theorem wv_X6_add : sw_V yX6_add cX6_add 7 (some .int) 3 := ⟨sw_mem 822 (by decide +kernel) rfl, sw_mem 21 (by decide +kernel) rfl, sw_mem 97 (by decide +kernel) rfl, sw_mem 823 rfl rfl, ⟨by decide +kernel, by decide +kernel, by decide +kernel⟩⟩
set_option maxRecDepth 50000 in
theorem wv_X6_isWanted : sw_V yX6_isWanted cX6_isWanted 4 (some .boolean) 1 := ⟨sw_mem 827 (by decide +kernel) rfl, sw_mem 22 (by decide +kernel) rfl, sw_mem 97 (by decide +kernel) rfl, sw_mem 828 rfl rfl, ⟨by decide +kernel, by decide +kernel, by decide +kernel⟩⟩
set_option maxRecDepth 50000 in
theorem wv_X6_bringUp : sw_V yX6_bringUp cX6_bringUp 4 none 1 := ⟨sw_mem 849 (by decide +kernel) rfl, sw_mem 25 (by decide +kernel) rfl, sw_mem 97 (by decide +kernel) rfl, sw_mem 850 rfl rfl, ⟨by decide +kernel, by decide +kernel, by decide +kernel⟩⟩
set_option maxRecDepth 50000 in
theorem wv_X9_setsOf : sw_S yX9_setsOf cX9_setsOf 1 (some .int) 1 := ⟨sw_mem 735 (by decide +kernel) rfl, sw_mem 87 (by decide +kernel) rfl, sw_mem 736 rfl rfl, ⟨by decide +kernel, by decide +kernel, by decide +kernel⟩⟩
set_option maxRecDepth 50000 in
theorem wv_X7_allSo : sw_V yX7_allSo cX7_allSo 3 (some .boolean) 1 := ⟨sw_mem 940 (by decide +kernel) rfl, sw_mem 941 (by decide +kernel) rfl, sw_mem 95 (by decide +kernel) rfl, sw_mem 942 rfl rfl, ⟨by decide +kernel, by decide +kernel, by decide +kernel⟩⟩
set_option maxRecDepth 50000 in
theorem wv_X7_otherWishSo : sw_V yX7_otherWishSo cX7_otherWishSo 9 (some .int) 4 := ⟨sw_mem 957 (by decide +kernel) rfl, sw_mem 958 (by decide +kernel) rfl, sw_mem 95 (by decide +kernel) rfl, sw_mem 959 rfl rfl, ⟨by decide +kernel, by decide +kernel, by decide +kernel⟩⟩
set_option maxRecDepth 50000 in
theorem wv_X7_allSoIf : sw_V yX7_allSoIf cX7_allSoIf 6 (some .boolean) 3 := ⟨sw_mem 936 (by decide +kernel) rfl, sw_mem 937 (by decide +kernel) rfl, sw_mem 95 (by decide +kernel) rfl, sw_mem 938 rfl rfl, ⟨by decide +kernel, by decide +kernel, by decide +kernel⟩⟩
set_option maxRecDepth 50000 in
theorem wv_X9_takeLines : sw_V yX9_takeLines cX9_takeLines 6 (some .int) 0 := ⟨sw_mem 483 (by decide +kernel) rfl, sw_mem 2 (by decide +kernel) rfl, sw_mem 87 (by decide +kernel) rfl, sw_mem 484 rfl rfl, ⟨by decide +kernel, by decide +kernel, by decide +kernel⟩⟩
set_option maxRecDepth 50000 in
theorem wv_X1_carry : sw_V yX1_carry cX1_carry 5 (some .int) 1 := ⟨sw_mem 613 (by decide +kernel) rfl, sw_mem 614 (by decide +kernel) rfl, sw_mem 89 (by decide +kernel) rfl, sw_mem 615 rfl rfl, ⟨by decide +kernel, by decide +kernel, by decide +kernel⟩⟩
set_option maxRecDepth 50000 in
theorem wv_X0_flawOf : sw_S yX0_flawOf cX0_flawOf 4 (some .int) 1 := ⟨sw_mem 669 (by decide +kernel) rfl, sw_mem 96 (by decide +kernel) rfl, sw_mem 670 rfl rfl, ⟨by decide +kernel, by decide +kernel, by decide +kernel⟩⟩
set_option maxRecDepth 50000 in
theorem wv_X9_addChance : sw_V yX9_addChance cX9_addChance 4 none 2 := ⟨sw_mem 740 (by decide +kernel) rfl, sw_mem 14 (by decide +kernel) rfl, sw_mem 87 (by decide +kernel) rfl, sw_mem 741 rfl rfl, ⟨by decide +kernel, by decide +kernel, by decide +kernel⟩⟩
set_option maxRecDepth 50000 in
theorem wv_J7_fill_d0a16 : sw_S yJ7_fill_d0a16 cJ7_fill_d0a16 5 none 2 := ⟨sw_mem 732 (by decide +kernel) rfl, sw_mem 93 (by decide +kernel) rfl, sw_mem 733 rfl rfl, ⟨by decide +kernel, by decide +kernel, by decide +kernel⟩⟩
set_option maxRecDepth 50000 in
theorem wv_X7_notSo : sw_V yX7_notSo cX7_notSo 4 (some .int) 1 := ⟨sw_mem 927 (by decide +kernel) rfl, sw_mem 928 (by decide +kernel) rfl, sw_mem 95 (by decide +kernel) rfl, sw_mem 929 rfl rfl, ⟨by decide +kernel, by decide +kernel, by decide +kernel⟩⟩
set_option maxRecDepth 50000 in
theorem wv_X7_soWithOneMore : sw_V yX7_soWithOneMore cX7_soWithOneMore 5 (some .boolean) 3 := ⟨sw_mem 969 (by decide +kernel) rfl, sw_mem 970 (by decide +kernel) rfl, sw_mem 95 (by decide +kernel) rfl, sw_mem 971 rfl rfl, ⟨by decide +kernel, by decide +kernel, by decide +kernel⟩⟩
set_option maxRecDepth 50000 in
theorem wv_X9_distanceBy : sw_V yX9_distanceBy cX9_distanceBy 6 (some .int) 3 := ⟨sw_mem 768 (by decide +kernel) rfl, sw_mem 17 (by decide +kernel) rfl, sw_mem 87 (by decide +kernel) rfl, sw_mem 769 rfl rfl, ⟨by decide +kernel, by decide +kernel, by decide +kernel⟩⟩
set_option maxRecDepth 50000 in
theorem wv_X9_bestWish : sw_V yX9_bestWish cX9_bestWish 7 (some .int) 2 := ⟨sw_mem 764 (by decide +kernel) rfl, sw_mem 16 (by decide +kernel) rfl, sw_mem 87 (by decide +kernel) rfl, sw_mem 765 rfl rfl, ⟨by decide +kernel, by decide +kernel, by decide +kernel⟩⟩
set_option maxRecDepth 50000 in
theorem wv_X9_tellLiars : sw_V yX9_tellLiars cX9_tellLiars 4 none 3 := ⟨sw_mem 962 (by decide +kernel) rfl, sw_mem 29 (by decide +kernel) rfl, sw_mem 87 (by decide +kernel) rfl, sw_mem 963 rfl rfl, ⟨by decide +kernel, by decide +kernel, by decide +kernel⟩⟩
set_option maxRecDepth 50000 in
theorem wv_J6_numberOfTrailingZeros_0f7a4 : sw_S yJ6_numberOfTrailingZeros_0f7a4 cJ6_numberOfTrailingZeros_0f7a4 2 (some .int) 1 := ⟨sw_mem 953 (by decide +kernel) rfl, sw_mem 109 (by decide +kernel) rfl, sw_mem 954 rfl rfl, ⟨by decide +kernel, by decide +kernel, by decide +kernel⟩⟩
set_option maxRecDepth 50000 in
theorem wv_X10_betsAll : sw_V yX10_betsAll cX10_betsAll 2 none 0 := ⟨sw_mem 1552 (by decide +kernel) rfl, sw_mem 82 (by decide +kernel) rfl, sw_mem 98 (by decide +kernel) rfl, sw_mem 1553 rfl rfl, ⟨by decide +kernel, by decide +kernel, by decide +kernel⟩⟩
set_option maxRecDepth 50000 in
theorem wv_X0_wish : sw_V yX0_wish cX0_wish 6 (some .boolean) 4 := ⟨sw_mem 699 (by decide +kernel) rfl, sw_mem 13 (by decide +kernel) rfl, sw_mem 96 (by decide +kernel) rfl, sw_mem 700 rfl rfl, ⟨by decide +kernel, by decide +kernel, by decide +kernel⟩⟩
set_option maxRecDepth 50000 in
theorem wv_X6_goOnFrom : sw_V yX6_goOnFrom cX6_goOnFrom 9 (some .int) 2 := ⟨sw_mem 845 (by decide +kernel) rfl, sw_mem 24 (by decide +kernel) rfl, sw_mem 97 (by decide +kernel) rfl, sw_mem 846 rfl rfl, ⟨by decide +kernel, by decide +kernel, by decide +kernel⟩⟩
set_option maxRecDepth 50000 in
theorem wv_X6_keyOf : sw_S yX6_keyOf cX6_keyOf 4 (some .long) 1 := ⟨sw_mem 818 (by decide +kernel) rfl, sw_mem 97 (by decide +kernel) rfl, sw_mem 819 rfl rfl, ⟨by decide +kernel, by decide +kernel, by decide +kernel⟩⟩
set_option maxRecDepth 50000 in
theorem wv_X9_fewestMoved : sw_V yX9_fewestMoved cX9_fewestMoved 9 (some .int) 2 := ⟨sw_mem 751 (by decide +kernel) rfl, sw_mem 15 (by decide +kernel) rfl, sw_mem 87 (by decide +kernel) rfl, sw_mem 752 rfl rfl, ⟨by decide +kernel, by decide +kernel, by decide +kernel⟩⟩
set_option maxRecDepth 50000 in
theorem wv_X9_tellAnew : sw_V yX9_tellAnew cX9_tellAnew 5 (some .boolean) 1 := ⟨sw_mem 777 (by decide +kernel) rfl, sw_mem 18 (by decide +kernel) rfl, sw_mem 87 (by decide +kernel) rfl, sw_mem 778 rfl rfl, ⟨by decide +kernel, by decide +kernel, by decide +kernel⟩⟩
set_option maxRecDepth 50000 in
theorem wv_X9_comeHome : sw_V yX9_comeHome cX9_comeHome 5 (some .int) 2 := ⟨sw_mem 793 (by decide +kernel) rfl, sw_mem 19 (by decide +kernel) rfl, sw_mem 87 (by decide +kernel) rfl, sw_mem 794 rfl rfl, ⟨by decide +kernel, by decide +kernel, by decide +kernel⟩⟩
set_option maxRecDepth 50000 in
theorem wv_X6_seek : sw_V yX6_seek cX6_seek 7 (some .int) 3 := ⟨sw_mem 812 (by decide +kernel) rfl, sw_mem 813 (by decide +kernel) rfl, sw_mem 97 (by decide +kernel) rfl, sw_mem 814 rfl rfl, ⟨by decide +kernel, by decide +kernel, by decide +kernel⟩⟩
set_option maxRecDepth 50000 in
theorem wv_X6_everHome : sw_V yX6_everHome cX6_everHome 3 (some .int) 0 := ⟨sw_mem 894 (by decide +kernel) rfl, sw_mem 895 (by decide +kernel) rfl, sw_mem 97 (by decide +kernel) rfl, sw_mem 896 rfl rfl, ⟨by decide +kernel, by decide +kernel, by decide +kernel⟩⟩
set_option maxRecDepth 50000 in
theorem wv_X6_everStopped : sw_V yX6_everStopped cX6_everStopped 3 (some .int) 0 := ⟨sw_mem 898 (by decide +kernel) rfl, sw_mem 899 (by decide +kernel) rfl, sw_mem 97 (by decide +kernel) rfl, sw_mem 900 rfl rfl, ⟨by decide +kernel, by decide +kernel, by decide +kernel⟩⟩
set_option maxRecDepth 50000 in
theorem wv_X9_explainedBy : sw_V yX9_explainedBy cX9_explainedBy 8 (some .boolean) 1 := ⟨sw_mem 950 (by decide +kernel) rfl, sw_mem 28 (by decide +kernel) rfl, sw_mem 87 (by decide +kernel) rfl, sw_mem 951 rfl rfl, ⟨by decide +kernel, by decide +kernel, by decide +kernel⟩⟩
set_option maxRecDepth 50000 in
theorem wv_X9_weighStops : sw_V yX9_weighStops cX9_weighStops 8 (some .long) 0 := ⟨sw_mem 980 (by decide +kernel) rfl, sw_mem 30 (by decide +kernel) rfl, sw_mem 87 (by decide +kernel) rfl, sw_mem 981 rfl rfl, ⟨by decide +kernel, by decide +kernel, by decide +kernel⟩⟩
set_option maxRecDepth 50000 in
theorem wv_X9_tellPlan : sw_V yX9_tellPlan cX9_tellPlan 4 none 1 := ⟨sw_mem 862 (by decide +kernel) rfl, sw_mem 27 (by decide +kernel) rfl, sw_mem 87 (by decide +kernel) rfl, sw_mem 863 rfl rfl, ⟨by decide +kernel, by decide +kernel, by decide +kernel⟩⟩
set_option maxRecDepth 50000 in
theorem wv_X0_act : sw_V yX0_act cX0_act 8 (some .boolean) 5 := ⟨sw_mem 689 (by decide +kernel) rfl, sw_mem 11 (by decide +kernel) rfl, sw_mem 96 (by decide +kernel) rfl, sw_mem 690 rfl rfl, ⟨by decide +kernel, by decide +kernel, by decide +kernel⟩⟩
set_option maxRecDepth 50000 in
theorem wv_X0_live : sw_V yX0_live cX0_live 6 (some .boolean) 3 := ⟨sw_mem 684 (by decide +kernel) rfl, sw_mem 685 (by decide +kernel) rfl, sw_mem 96 (by decide +kernel) rfl, sw_mem 686 rfl rfl, ⟨by decide +kernel, by decide +kernel, by decide +kernel⟩⟩
set_option maxRecDepth 50000 in
theorem wv_X9_ridesTillHome : sw_V yX9_ridesTillHome cX9_ridesTillHome 3 (some .int) 1 := ⟨sw_mem 805 (by decide +kernel) rfl, sw_mem 20 (by decide +kernel) rfl, sw_mem 87 (by decide +kernel) rfl, sw_mem 806 rfl rfl, ⟨by decide +kernel, by decide +kernel, by decide +kernel⟩⟩
set_option maxRecDepth 50000 in
theorem wv_J0_length_8abf5 : sw_V yJ0_length_8abf5 cJ0_length_8abf5 1 (some .int) 0 := ⟨sw_mem 1187 (by decide +kernel) rfl, sw_mem 1188 (by decide +kernel) rfl, sw_mem 100 (by decide +kernel) rfl, sw_mem 1189 rfl rfl, ⟨by decide +kernel, by decide +kernel, by decide +kernel⟩⟩
set_option maxRecDepth 50000 in
theorem wv_J0_coder_7d493 : sw_V yJ0_coder_7d493 cJ0_coder_7d493 1 (some .byte) 0 := ⟨sw_mem 1191 (by decide +kernel) rfl, sw_mem 1192 (by decide +kernel) rfl, sw_mem 100 (by decide +kernel) rfl, sw_mem 1193 rfl rfl, ⟨by decide +kernel, by decide +kernel, by decide +kernel⟩⟩
set_option maxRecDepth 50000 in
theorem wv_J0_isLatin1_aae02 : sw_V yJ0_isLatin1_aae02 cJ0_isLatin1_aae02 1 (some .boolean) 0 := ⟨sw_mem 1201 (by decide +kernel) rfl, sw_mem 1202 (by decide +kernel) rfl, sw_mem 100 (by decide +kernel) rfl, sw_mem 1203 rfl rfl, ⟨by decide +kernel, by decide +kernel, by decide +kernel⟩⟩
set_option maxRecDepth 50000 in
theorem wv_J0_charAt_5068e : sw_V yJ0_charAt_5068e cJ0_charAt_5068e 2 (some .char) 1 := ⟨sw_mem 1197 (by decide +kernel) rfl, sw_mem 1198 (by decide +kernel) rfl, sw_mem 100 (by decide +kernel) rfl, sw_mem 1199 rfl rfl, ⟨by decide +kernel, by decide +kernel, by decide +kernel⟩⟩
set_option maxRecDepth 50000 in
theorem wv_J1_charAt_3b067 : sw_S yJ1_charAt_3b067 cJ1_charAt_3b067 2 (some .char) 2 := ⟨sw_mem 1205 (by decide +kernel) rfl, sw_mem 101 (by decide +kernel) rfl, sw_mem 1206 rfl rfl, ⟨by decide +kernel, by decide +kernel, by decide +kernel⟩⟩
set_option maxRecDepth 50000 in
theorem wv_J0_checkIndex_df160 : sw_S yJ0_checkIndex_df160 cJ0_checkIndex_df160 2 none 2 := ⟨sw_mem 1208 (by decide +kernel) rfl, sw_mem 100 (by decide +kernel) rfl, sw_mem 1209 rfl rfl, ⟨by decide +kernel, by decide +kernel, by decide +kernel⟩⟩
set_option maxRecDepth 50000 in
theorem wv_J3_checkIndex_8e157 : sw_S yJ3_checkIndex_8e157 cJ3_checkIndex_8e157 3 (some .int) 3 := ⟨sw_mem 1213 (by decide +kernel) rfl, sw_mem 102 (by decide +kernel) rfl, sw_mem 1214 rfl rfl, ⟨by decide +kernel, by decide +kernel, by decide +kernel⟩⟩
theorem ml_J0_335 : Cond.methodLink RJ0 335 yJ0_coder_7d493 ∈ sw_T := sw_mem 1190 (by decide +kernel) rfl
theorem ml_J0_492 : Cond.methodLink RJ0 492 yJ0_isLatin1_aae02 ∈ sw_T := sw_mem 1200 (by decide +kernel) rfl
theorem ml_J0_495 : Cond.methodLink RJ0 495 yJ1_charAt_3b067 ∈ sw_T := sw_mem 1204 (by decide +kernel) rfl
theorem ml_J1_9 : Cond.methodLink RJ1 9 yJ0_checkIndex_df160 ∈ sw_T := sw_mem 1207 (by decide +kernel) rfl
theorem ml_J0_1059 : Cond.methodLink RJ0 1059 yJ3_checkIndex_8e157 ∈ sw_T := sw_mem 1212 (by decide +kernel) rfl
theorem fl_J0_38 : Cond.fieldLink RJ0 38 "java/lang/String" "COMPACT_STRINGS" "Z" ∈ sw_T := sw_mem 1194 (by decide +kernel) rfl
theorem fl_J0_1053 : Cond.fieldLink RJ0 1053 "jdk/internal/util/Preconditions" "SIOOBE_FORMATTER" "Ljava/util/function/BiFunction;" ∈ sw_T := sw_mem 1210 (by decide +kernel) rfl
theorem fl_J0_9 : Cond.fieldLink RJ0 9 "java/lang/String" "value" "[B" ∈ sw_T := sw_mem 1801 (by decide +kernel) rfl
theorem fl_J0_15 : Cond.fieldLink RJ0 15 "java/lang/String" "coder" "B" ∈ sw_T := sw_mem 1802 (by decide +kernel) rfl
theorem sw_csZ {cy : Nat → ClassId} {sz : Nat} : ∀ s : State, sw_Ev cy sz s → va_Z "java/lang/String" "COMPACT_STRINGS" "Z" (.int 1) (fun q => sz ≤ q) s s.heap := fun s h => sw_evZ h (List.mem_of_getElem? (i := 1195) (by decide +kernel)) (List.mem_of_getElem? (i := 100) (by decide +kernel)) (by decide +kernel)
theorem sw_fmZ {cy : Nat → ClassId} {sz : Nat} {s : State} (h : sw_Ev cy sz s) : va_Zq "jdk/internal/util/Preconditions" "SIOOBE_FORMATTER" "Ljava/util/function/BiFunction;" (fun q => sz ≤ q) s s.heap := by
  obtain ⟨s0, a0, h1, h2, h3, h4, h5, h6, h7⟩ := h
  exact ((va_Zqof (h2 _ (List.mem_of_getElem? (i := 1211) (by decide +kernel))) (h2 _ (List.mem_of_getElem? (i := 102) (by decide +kernel))) (flat_of_before _ h1 _ (by decide +kernel)) (fun a ha => by rw [h3] at ha; exact Nat.not_le.mpr ha)).moved h4.alike).kept (fun a ha _ => h5 a (by rw [← h3]; exact ha))
theorem sw_sr0 : Cond.stringRef "LeastWishedModel" (sw_sk.getD 0 0) "fwdsnrl" ∈ lw_tbl := List.mem_of_getElem? (i := 1181) (by decide +kernel)
theorem sw_sr1 : Cond.stringRef "LeastWishedModel" (sw_sk.getD 1 0) "<>=" ∈ lw_tbl := List.mem_of_getElem? (i := 1234) (by decide +kernel)
theorem sw_sr2 : Cond.stringRef "LeastWishedModel" (sw_sk.getD 2 0) "+-" ∈ lw_tbl := List.mem_of_getElem? (i := 1235) (by decide +kernel)
theorem sw_sr3 : Cond.stringRef "LeastWishedModel" (sw_sk.getD 3 0) "*/" ∈ lw_tbl := List.mem_of_getElem? (i := 1236) (by decide +kernel)
theorem sw_sr4 : Cond.stringRef "LeastWishedModel" (sw_sk.getD 4 0) "iowr" ∈ lw_tbl := List.mem_of_getElem? (i := 1355) (by decide +kernel)
