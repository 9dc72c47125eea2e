def IvX1 (o : Ob) : Prop := (0 ≤ (gI o 4).toInt ∧ (gI o 4).toInt ≤ 7) ∧ sgd [(0, 6, 0, 6)] (gA o 2) ∧ True
theorem igX1_4 {o : Ob} (h : IvX1 o) : 0 ≤ (gI o 4).toInt ∧ (gI o 4).toInt ≤ 7 := h.1
theorem ipX1_4 {o : Ob} {v : Int32} (h : IvX1 o) (hv : 0 ≤ v.toInt ∧ v.toInt ≤ 7) : IvX1 (sI o 4 v) := ⟨hv, h.2.1, trivial⟩
theorem iaX1_2_0 {o : Ob} (h : IvX1 o) {j : Int32} (h0 : 0 ≤ j.toInt) (h1 : j.toInt ≤ 6) : 0 ≤ (gA o 2 j.toNatClampNeg).toInt ∧ (gA o 2 j.toNatClampNeg).toInt ≤ 6 := sg_rd (h.2.1.1) (by omega) (by omega)
theorem ibX1_2 {o : Ob} {j v : Int32} (h : IvX1 o) (hj : 0 ≤ j.toInt) (h0 : j.toInt < 0 ∨ 6 < j.toInt ∨ (0 ≤ v.toInt ∧ v.toInt ≤ 6)) : IvX1 (tA o 2 j.toNatClampNeg v) := ⟨h.1, ⟨sg_up (h.2.1.1) hj (by omega), trivial⟩, trivial⟩
def IvX2 (pl : List CR) (o : Ob) : Prop := (0 ≤ (gI o 7).toInt ∧ (gI o 7).toInt ≤ 7) ∧ (0 ≤ (gI o 8).toInt ∧ (gI o 8).toInt ≤ 6) ∧ (0 ≤ (gI o 9).toInt ∧ (gI o 9).toInt ≤ 6) ∧ ((-1) ≤ (gI o 10).toInt ∧ (gI o 10).toInt ≤ 5) ∧ sgd [(0, 5, 0, 3)] (gA o 4) ∧ (∀ j : Nat, j < 6 → zpo pl (gR o 6 j) = true)
theorem igX2_7 {pl : List CR} {o : Ob} (h : IvX2 pl o) : 0 ≤ (gI o 7).toInt ∧ (gI o 7).toInt ≤ 7 := h.1
theorem ipX2_7 {pl : List CR} {o : Ob} {v : Int32} (h : IvX2 pl o) (hv : 0 ≤ v.toInt ∧ v.toInt ≤ 7) : IvX2 pl (sI o 7 v) := ⟨hv, h.2.1, h.2.2.1, h.2.2.2.1, h.2.2.2.2.1, h.2.2.2.2.2⟩
theorem igX2_8 {pl : List CR} {o : Ob} (h : IvX2 pl o) : 0 ≤ (gI o 8).toInt ∧ (gI o 8).toInt ≤ 6 := h.2.1
theorem ipX2_8 {pl : List CR} {o : Ob} {v : Int32} (h : IvX2 pl o) (hv : 0 ≤ v.toInt ∧ v.toInt ≤ 6) : IvX2 pl (sI o 8 v) := ⟨h.1, hv, h.2.2.1, h.2.2.2.1, h.2.2.2.2.1, h.2.2.2.2.2⟩
theorem igX2_9 {pl : List CR} {o : Ob} (h : IvX2 pl o) : 0 ≤ (gI o 9).toInt ∧ (gI o 9).toInt ≤ 6 := h.2.2.1
theorem ipX2_9 {pl : List CR} {o : Ob} {v : Int32} (h : IvX2 pl o) (hv : 0 ≤ v.toInt ∧ v.toInt ≤ 6) : IvX2 pl (sI o 9 v) := ⟨h.1, h.2.1, hv, h.2.2.2.1, h.2.2.2.2.1, h.2.2.2.2.2⟩
theorem igX2_10 {pl : List CR} {o : Ob} (h : IvX2 pl o) : (-1) ≤ (gI o 10).toInt ∧ (gI o 10).toInt ≤ 5 := h.2.2.2.1
theorem ipX2_10 {pl : List CR} {o : Ob} {v : Int32} (h : IvX2 pl o) (hv : (-1) ≤ v.toInt ∧ v.toInt ≤ 5) : IvX2 pl (sI o 10 v) := ⟨h.1, h.2.1, h.2.2.1, hv, h.2.2.2.2.1, h.2.2.2.2.2⟩
theorem iaX2_4_0 {pl : List CR} {o : Ob} (h : IvX2 pl o) {j : Int32} (h0 : 0 ≤ j.toInt) (h1 : j.toInt ≤ 5) : 0 ≤ (gA o 4 j.toNatClampNeg).toInt ∧ (gA o 4 j.toNatClampNeg).toInt ≤ 3 := sg_rd (h.2.2.2.2.1.1) (by omega) (by omega)
theorem ibX2_4 {pl : List CR} {o : Ob} {j v : Int32} (h : IvX2 pl o) (hj : 0 ≤ j.toInt) (h0 : j.toInt < 0 ∨ 5 < j.toInt ∨ (0 ≤ v.toInt ∧ v.toInt ≤ 3)) : IvX2 pl (tA o 4 j.toNatClampNeg v) := ⟨h.1, h.2.1, h.2.2.1, h.2.2.2.1, ⟨sg_up (h.2.2.2.2.1.1) hj (by omega), trivial⟩, h.2.2.2.2.2⟩
theorem icX2_4 {pl : List CR} {o o2 : Ob} (h : IvX2 pl o) (h2 : IvX2 pl o2) : IvX2 pl (cA o 4 (gA o2 4) 0 0 6) := ⟨h.1, h.2.1, h.2.2.1, h.2.2.2.1, ⟨sg_cp (h.2.2.2.2.1.1) (fun j _ z => h2.2.2.2.2.1.1 j (Nat.zero_le _) (by have z : j < 0 + 6 := z; omega)), trivial⟩, h.2.2.2.2.2⟩
def IvX3 (o : Ob) : Prop := True
def IvX4 (o : Ob) : Prop := sgd [(0, 6, 0, 9)] (gA o 0) ∧ True
theorem iaX4_0_0 {o : Ob} (h : IvX4 o) {j : Int32} (h0 : 0 ≤ j.toInt) (h1 : j.toInt ≤ 6) : 0 ≤ (gA o 0 j.toNatClampNeg).toInt ∧ (gA o 0 j.toNatClampNeg).toInt ≤ 9 := sg_rd (h.1.1) (by omega) (by omega)
theorem ibX4_0 {o : Ob} {j v : Int32} (h : IvX4 o) (hj : 0 ≤ j.toInt) (h0 : j.toInt < 0 ∨ 6 < j.toInt ∨ (0 ≤ v.toInt ∧ v.toInt ≤ 9)) : IvX4 (tA o 0 j.toNatClampNeg v) := ⟨⟨sg_up (h.1.1) hj (by omega), trivial⟩, trivial⟩
theorem icX4_0 {o o2 : Ob} (h : IvX4 o) (h2 : IvX4 o2) : IvX4 (cA o 0 (gA o2 0) 0 0 7) := ⟨⟨sg_cp (h.1.1) (fun j _ z => h2.1.1 j (Nat.zero_le _) (by have z : j < 0 + 7 := z; omega)), trivial⟩, trivial⟩
def IvX5 (o : Ob) : Prop := (0 ≤ (gI o 2).toInt ∧ (gI o 2).toInt ≤ 15) ∧ (0 ≤ (gI o 3).toInt ∧ (gI o 3).toInt ≤ 16) ∧ AHok (gA o 1)
theorem igX5_2 {o : Ob} (h : IvX5 o) : 0 ≤ (gI o 2).toInt ∧ (gI o 2).toInt ≤ 15 := h.1
theorem ipX5_2 {o : Ob} {v : Int32} (h : IvX5 o) (hv : 0 ≤ v.toInt ∧ v.toInt ≤ 15) : IvX5 (sI o 2 v) := ⟨hv, h.2.1, h.2.2⟩
theorem igX5_3 {o : Ob} (h : IvX5 o) : 0 ≤ (gI o 3).toInt ∧ (gI o 3).toInt ≤ 16 := h.2.1
theorem ipX5_3 {o : Ob} {v : Int32} (h : IvX5 o) (hv : 0 ≤ v.toInt ∧ v.toInt ≤ 16) : IvX5 (sI o 3 v) := ⟨h.1, hv, h.2.2⟩
def IvX6 (o : Ob) : Prop := (0 ≤ (gI o 2).toInt ∧ (gI o 2).toInt ≤ 400) ∧ (0 ≤ (gI o 4).toInt ∧ (gI o 4).toInt ≤ 1) ∧ (0 ≤ (gI o 5).toInt ∧ (gI o 5).toInt ≤ 50) ∧ (0 ≤ (gI o 6).toInt ∧ (gI o 6).toInt ≤ 3) ∧ (0 ≤ (gI o 7).toInt ∧ (gI o 7).toInt ≤ 400) ∧ (0 ≤ (gI o 8).toInt ∧ (gI o 8).toInt ≤ 401) ∧ True
theorem igX6_2 {o : Ob} (h : IvX6 o) : 0 ≤ (gI o 2).toInt ∧ (gI o 2).toInt ≤ 400 := h.1
theorem ipX6_2 {o : Ob} {v : Int32} (h : IvX6 o) (hv : 0 ≤ v.toInt ∧ v.toInt ≤ 400) : IvX6 (sI o 2 v) := ⟨hv, h.2.1, h.2.2.1, h.2.2.2.1, h.2.2.2.2.1, h.2.2.2.2.2.1, trivial⟩
theorem igX6_4 {o : Ob} (h : IvX6 o) : 0 ≤ (gI o 4).toInt ∧ (gI o 4).toInt ≤ 1 := h.2.1
theorem ipX6_4 {o : Ob} {v : Int32} (h : IvX6 o) (hv : 0 ≤ v.toInt ∧ v.toInt ≤ 1) : IvX6 (sI o 4 v) := ⟨h.1, hv, h.2.2.1, h.2.2.2.1, h.2.2.2.2.1, h.2.2.2.2.2.1, trivial⟩
theorem igX6_5 {o : Ob} (h : IvX6 o) : 0 ≤ (gI o 5).toInt ∧ (gI o 5).toInt ≤ 50 := h.2.2.1
theorem ipX6_5 {o : Ob} {v : Int32} (h : IvX6 o) (hv : 0 ≤ v.toInt ∧ v.toInt ≤ 50) : IvX6 (sI o 5 v) := ⟨h.1, h.2.1, hv, h.2.2.2.1, h.2.2.2.2.1, h.2.2.2.2.2.1, trivial⟩
theorem igX6_6 {o : Ob} (h : IvX6 o) : 0 ≤ (gI o 6).toInt ∧ (gI o 6).toInt ≤ 3 := h.2.2.2.1
theorem ipX6_6 {o : Ob} {v : Int32} (h : IvX6 o) (hv : 0 ≤ v.toInt ∧ v.toInt ≤ 3) : IvX6 (sI o 6 v) := ⟨h.1, h.2.1, h.2.2.1, hv, h.2.2.2.2.1, h.2.2.2.2.2.1, trivial⟩
theorem igX6_7 {o : Ob} (h : IvX6 o) : 0 ≤ (gI o 7).toInt ∧ (gI o 7).toInt ≤ 400 := h.2.2.2.2.1
theorem ipX6_7 {o : Ob} {v : Int32} (h : IvX6 o) (hv : 0 ≤ v.toInt ∧ v.toInt ≤ 400) : IvX6 (sI o 7 v) := ⟨h.1, h.2.1, h.2.2.1, h.2.2.2.1, hv, h.2.2.2.2.2.1, trivial⟩
theorem igX6_8 {o : Ob} (h : IvX6 o) : 0 ≤ (gI o 8).toInt ∧ (gI o 8).toInt ≤ 401 := h.2.2.2.2.2.1
theorem ipX6_8 {o : Ob} {v : Int32} (h : IvX6 o) (hv : 0 ≤ v.toInt ∧ v.toInt ≤ 401) : IvX6 (sI o 8 v) := ⟨h.1, h.2.1, h.2.2.1, h.2.2.2.1, h.2.2.2.2.1, hv, trivial⟩
def IvX7 (o : Ob) : Prop := sgd [(0, 6, 0, 7)] (gA o 2) ∧ sgd [(0, 6, 0, 6)] (gA o 3) ∧ True
theorem iaX7_2_0 {o : Ob} (h : IvX7 o) {j : Int32} (h0 : 0 ≤ j.toInt) (h1 : j.toInt ≤ 6) : 0 ≤ (gA o 2 j.toNatClampNeg).toInt ∧ (gA o 2 j.toNatClampNeg).toInt ≤ 7 := sg_rd (h.1.1) (by omega) (by omega)
theorem ibX7_2 {o : Ob} {j v : Int32} (h : IvX7 o) (hj : 0 ≤ j.toInt) (h0 : j.toInt < 0 ∨ 6 < j.toInt ∨ (0 ≤ v.toInt ∧ v.toInt ≤ 7)) : IvX7 (tA o 2 j.toNatClampNeg v) := ⟨⟨sg_up (h.1.1) hj (by omega), trivial⟩, h.2.1, trivial⟩
theorem iaX7_3_0 {o : Ob} (h : IvX7 o) {j : Int32} (h0 : 0 ≤ j.toInt) (h1 : j.toInt ≤ 6) : 0 ≤ (gA o 3 j.toNatClampNeg).toInt ∧ (gA o 3 j.toNatClampNeg).toInt ≤ 6 := sg_rd (h.2.1.1) (by omega) (by omega)
theorem ibX7_3 {o : Ob} {j v : Int32} (h : IvX7 o) (hj : 0 ≤ j.toInt) (h0 : j.toInt < 0 ∨ 6 < j.toInt ∨ (0 ≤ v.toInt ∧ v.toInt ≤ 6)) : IvX7 (tA o 3 j.toNatClampNeg v) := ⟨h.1, ⟨sg_up (h.2.1.1) hj (by omega), trivial⟩, trivial⟩
def IvX8 (rI : Nat → Option Nat) (o : Ob) : Prop := gR o 7 = rI
def IvX9 (o : Ob) : Prop := (0 ≤ (gI o 8).toInt ∧ (gI o 8).toInt ≤ 16) ∧ (0 ≤ (gI o 13).toInt ∧ (gI o 13).toInt ≤ 400) ∧ (0 ≤ (gI o 14).toInt ∧ (gI o 14).toInt ≤ 400) ∧ (0 ≤ (gI o 15).toInt ∧ (gI o 15).toInt ≤ 400) ∧ (0 ≤ (gI o 16).toInt ∧ (gI o 16).toInt ≤ 3) ∧ (0 ≤ (gI o 19).toInt ∧ (gI o 19).toInt ≤ 1) ∧ (0 ≤ (gI o 20).toInt ∧ (gI o 20).toInt ≤ 1) ∧ (0 ≤ (gI o 21).toInt ∧ (gI o 21).toInt ≤ 12) ∧ (0 ≤ (gI o 23).toInt ∧ (gI o 23).toInt ≤ 400) ∧ (0 ≤ (gI o 26).toInt ∧ (gI o 26).toInt ≤ 50) ∧ (0 ≤ (gI o 29).toInt ∧ (gI o 29).toInt ≤ 400) ∧ (0 ≤ (gI o 38).toInt ∧ (gI o 38).toInt ≤ 1) ∧ (0 ≤ (gI o 43).toInt ∧ (gI o 43).toInt ≤ 7) ∧ (0 ≤ (gI o 59).toInt ∧ (gI o 59).toInt ≤ 1) ∧ ((-1) ≤ (gI o 62).toInt ∧ (gI o 62).toInt ≤ 7) ∧ sgd [(0, 0, 0, 7), (1, 1, 0, 6), (2, 2, 0, 6), (3, 3, (-1), 5), (7, 7, 0, 999), (8, 14, 0, 9), (22, 28, 0, 1), (29, 35, (-1), 6), (71, 82, 0, 9)] (gA o 3) ∧ sgd [(0, 15, 0, 3)] (gA o 7) ∧ sgd [(0, 15, 0, 3)] (gA o 10) ∧ sgd [(0, 6, 0, 6)] (gA o 42) ∧ sgd [(0, 4, (-1), 8)] (gA o 48) ∧ sgd [(0, 13, 0, 6)] (gA o 50) ∧ sgd [(0, 6, 0, 6)] (gA o 51) ∧ (EX9 (gA o 3) (gA o 4) (gA o 6) (gA o 9) ∧ (0 ≤ (gL o 60).toInt ∧ (gL o 60).toInt ≤ 1000002))
theorem igX9_8 {o : Ob} (h : IvX9 o) : 0 ≤ (gI o 8).toInt ∧ (gI o 8).toInt ≤ 16 := h.1
theorem ipX9_8 {o : Ob} {v : Int32} (h : IvX9 o) (hv : 0 ≤ v.toInt ∧ v.toInt ≤ 16) : IvX9 (sI o 8 v) := ⟨hv, h.2.1, h.2.2.1, h.2.2.2.1, h.2.2.2.2.1, h.2.2.2.2.2.1, h.2.2.2.2.2.2.1, h.2.2.2.2.2.2.2.1, h.2.2.2.2.2.2.2.2.1, h.2.2.2.2.2.2.2.2.2.1, h.2.2.2.2.2.2.2.2.2.2.1, h.2.2.2.2.2.2.2.2.2.2.2.1, h.2.2.2.2.2.2.2.2.2.2.2.2.1, h.2.2.2.2.2.2.2.2.2.2.2.2.2.1, h.2.2.2.2.2.2.2.2.2.2.2.2.2.2.1, h.2.2.2.2.2.2.2.2.2.2.2.2.2.2.2.1, h.2.2.2.2.2.2.2.2.2.2.2.2.2.2.2.2.1, h.2.2.2.2.2.2.2.2.2.2.2.2.2.2.2.2.2.1, h.2.2.2.2.2.2.2.2.2.2.2.2.2.2.2.2.2.2.1, h.2.2.2.2.2.2.2.2.2.2.2.2.2.2.2.2.2.2.2.1, h.2.2.2.2.2.2.2.2.2.2.2.2.2.2.2.2.2.2.2.2.1, h.2.2.2.2.2.2.2.2.2.2.2.2.2.2.2.2.2.2.2.2.2.1, h.2.2.2.2.2.2.2.2.2.2.2.2.2.2.2.2.2.2.2.2.2.2⟩
theorem igX9_13 {o : Ob} (h : IvX9 o) : 0 ≤ (gI o 13).toInt ∧ (gI o 13).toInt ≤ 400 := h.2.1
theorem ipX9_13 {o : Ob} {v : Int32} (h : IvX9 o) (hv : 0 ≤ v.toInt ∧ v.toInt ≤ 400) : IvX9 (sI o 13 v) := ⟨h.1, hv, h.2.2.1, h.2.2.2.1, h.2.2.2.2.1, h.2.2.2.2.2.1, h.2.2.2.2.2.2.1, h.2.2.2.2.2.2.2.1, h.2.2.2.2.2.2.2.2.1, h.2.2.2.2.2.2.2.2.2.1, h.2.2.2.2.2.2.2.2.2.2.1, h.2.2.2.2.2.2.2.2.2.2.2.1, h.2.2.2.2.2.2.2.2.2.2.2.2.1, h.2.2.2.2.2.2.2.2.2.2.2.2.2.1, h.2.2.2.2.2.2.2.2.2.2.2.2.2.2.1, h.2.2.2.2.2.2.2.2.2.2.2.2.2.2.2.1, h.2.2.2.2.2.2.2.2.2.2.2.2.2.2.2.2.1, h.2.2.2.2.2.2.2.2.2.2.2.2.2.2.2.2.2.1, h.2.2.2.2.2.2.2.2.2.2.2.2.2.2.2.2.2.2.1, h.2.2.2.2.2.2.2.2.2.2.2.2.2.2.2.2.2.2.2.1, h.2.2.2.2.2.2.2.2.2.2.2.2.2.2.2.2.2.2.2.2.1, h.2.2.2.2.2.2.2.2.2.2.2.2.2.2.2.2.2.2.2.2.2.1, h.2.2.2.2.2.2.2.2.2.2.2.2.2.2.2.2.2.2.2.2.2.2⟩
theorem igX9_14 {o : Ob} (h : IvX9 o) : 0 ≤ (gI o 14).toInt ∧ (gI o 14).toInt ≤ 400 := h.2.2.1
theorem ipX9_14 {o : Ob} {v : Int32} (h : IvX9 o) (hv : 0 ≤ v.toInt ∧ v.toInt ≤ 400) : IvX9 (sI o 14 v) := ⟨h.1, h.2.1, hv, h.2.2.2.1, h.2.2.2.2.1, h.2.2.2.2.2.1, h.2.2.2.2.2.2.1, h.2.2.2.2.2.2.2.1, h.2.2.2.2.2.2.2.2.1, h.2.2.2.2.2.2.2.2.2.1, h.2.2.2.2.2.2.2.2.2.2.1, h.2.2.2.2.2.2.2.2.2.2.2.1, h.2.2.2.2.2.2.2.2.2.2.2.2.1, h.2.2.2.2.2.2.2.2.2.2.2.2.2.1, h.2.2.2.2.2.2.2.2.2.2.2.2.2.2.1, h.2.2.2.2.2.2.2.2.2.2.2.2.2.2.2.1, h.2.2.2.2.2.2.2.2.2.2.2.2.2.2.2.2.1, h.2.2.2.2.2.2.2.2.2.2.2.2.2.2.2.2.2.1, h.2.2.2.2.2.2.2.2.2.2.2.2.2.2.2.2.2.2.1, h.2.2.2.2.2.2.2.2.2.2.2.2.2.2.2.2.2.2.2.1, h.2.2.2.2.2.2.2.2.2.2.2.2.2.2.2.2.2.2.2.2.1, h.2.2.2.2.2.2.2.2.2.2.2.2.2.2.2.2.2.2.2.2.2.1, h.2.2.2.2.2.2.2.2.2.2.2.2.2.2.2.2.2.2.2.2.2.2⟩
theorem igX9_15 {o : Ob} (h : IvX9 o) : 0 ≤ (gI o 15).toInt ∧ (gI o 15).toInt ≤ 400 := h.2.2.2.1
theorem ipX9_15 {o : Ob} {v : Int32} (h : IvX9 o) (hv : 0 ≤ v.toInt ∧ v.toInt ≤ 400) : IvX9 (sI o 15 v) := ⟨h.1, h.2.1, h.2.2.1, hv, h.2.2.2.2.1, h.2.2.2.2.2.1, h.2.2.2.2.2.2.1, h.2.2.2.2.2.2.2.1, h.2.2.2.2.2.2.2.2.1, h.2.2.2.2.2.2.2.2.2.1, h.2.2.2.2.2.2.2.2.2.2.1, h.2.2.2.2.2.2.2.2.2.2.2.1, h.2.2.2.2.2.2.2.2.2.2.2.2.1, h.2.2.2.2.2.2.2.2.2.2.2.2.2.1, h.2.2.2.2.2.2.2.2.2.2.2.2.2.2.1, h.2.2.2.2.2.2.2.2.2.2.2.2.2.2.2.1, h.2.2.2.2.2.2.2.2.2.2.2.2.2.2.2.2.1, h.2.2.2.2.2.2.2.2.2.2.2.2.2.2.2.2.2.1, h.2.2.2.2.2.2.2.2.2.2.2.2.2.2.2.2.2.2.1, h.2.2.2.2.2.2.2.2.2.2.2.2.2.2.2.2.2.2.2.1, h.2.2.2.2.2.2.2.2.2.2.2.2.2.2.2.2.2.2.2.2.1, h.2.2.2.2.2.2.2.2.2.2.2.2.2.2.2.2.2.2.2.2.2.1, h.2.2.2.2.2.2.2.2.2.2.2.2.2.2.2.2.2.2.2.2.2.2⟩
theorem igX9_16 {o : Ob} (h : IvX9 o) : 0 ≤ (gI o 16).toInt ∧ (gI o 16).toInt ≤ 3 := h.2.2.2.2.1
theorem ipX9_16 {o : Ob} {v : Int32} (h : IvX9 o) (hv : 0 ≤ v.toInt ∧ v.toInt ≤ 3) : IvX9 (sI o 16 v) := ⟨h.1, h.2.1, h.2.2.1, h.2.2.2.1, hv, h.2.2.2.2.2.1, h.2.2.2.2.2.2.1, h.2.2.2.2.2.2.2.1, h.2.2.2.2.2.2.2.2.1, h.2.2.2.2.2.2.2.2.2.1, h.2.2.2.2.2.2.2.2.2.2.1, h.2.2.2.2.2.2.2.2.2.2.2.1, h.2.2.2.2.2.2.2.2.2.2.2.2.1, h.2.2.2.2.2.2.2.2.2.2.2.2.2.1, h.2.2.2.2.2.2.2.2.2.2.2.2.2.2.1, h.2.2.2.2.2.2.2.2.2.2.2.2.2.2.2.1, h.2.2.2.2.2.2.2.2.2.2.2.2.2.2.2.2.1, h.2.2.2.2.2.2.2.2.2.2.2.2.2.2.2.2.2.1, h.2.2.2.2.2.2.2.2.2.2.2.2.2.2.2.2.2.2.1, h.2.2.2.2.2.2.2.2.2.2.2.2.2.2.2.2.2.2.2.1, h.2.2.2.2.2.2.2.2.2.2.2.2.2.2.2.2.2.2.2.2.1, h.2.2.2.2.2.2.2.2.2.2.2.2.2.2.2.2.2.2.2.2.2.1, h.2.2.2.2.2.2.2.2.2.2.2.2.2.2.2.2.2.2.2.2.2.2⟩
theorem igX9_19 {o : Ob} (h : IvX9 o) : 0 ≤ (gI o 19).toInt ∧ (gI o 19).toInt ≤ 1 := h.2.2.2.2.2.1
theorem ipX9_19 {o : Ob} {v : Int32} (h : IvX9 o) (hv : 0 ≤ v.toInt ∧ v.toInt ≤ 1) : IvX9 (sI o 19 v) := ⟨h.1, h.2.1, h.2.2.1, h.2.2.2.1, h.2.2.2.2.1, hv, h.2.2.2.2.2.2.1, h.2.2.2.2.2.2.2.1, h.2.2.2.2.2.2.2.2.1, h.2.2.2.2.2.2.2.2.2.1, h.2.2.2.2.2.2.2.2.2.2.1, h.2.2.2.2.2.2.2.2.2.2.2.1, h.2.2.2.2.2.2.2.2.2.2.2.2.1, h.2.2.2.2.2.2.2.2.2.2.2.2.2.1, h.2.2.2.2.2.2.2.2.2.2.2.2.2.2.1, h.2.2.2.2.2.2.2.2.2.2.2.2.2.2.2.1, h.2.2.2.2.2.2.2.2.2.2.2.2.2.2.2.2.1, h.2.2.2.2.2.2.2.2.2.2.2.2.2.2.2.2.2.1, h.2.2.2.2.2.2.2.2.2.2.2.2.2.2.2.2.2.2.1, h.2.2.2.2.2.2.2.2.2.2.2.2.2.2.2.2.2.2.2.1, h.2.2.2.2.2.2.2.2.2.2.2.2.2.2.2.2.2.2.2.2.1, h.2.2.2.2.2.2.2.2.2.2.2.2.2.2.2.2.2.2.2.2.2.1, h.2.2.2.2.2.2.2.2.2.2.2.2.2.2.2.2.2.2.2.2.2.2⟩
theorem igX9_20 {o : Ob} (h : IvX9 o) : 0 ≤ (gI o 20).toInt ∧ (gI o 20).toInt ≤ 1 := h.2.2.2.2.2.2.1
theorem ipX9_20 {o : Ob} {v : Int32} (h : IvX9 o) (hv : 0 ≤ v.toInt ∧ v.toInt ≤ 1) : IvX9 (sI o 20 v) := ⟨h.1, h.2.1, h.2.2.1, h.2.2.2.1, h.2.2.2.2.1, h.2.2.2.2.2.1, hv, h.2.2.2.2.2.2.2.1, h.2.2.2.2.2.2.2.2.1, h.2.2.2.2.2.2.2.2.2.1, h.2.2.2.2.2.2.2.2.2.2.1, h.2.2.2.2.2.2.2.2.2.2.2.1, h.2.2.2.2.2.2.2.2.2.2.2.2.1, h.2.2.2.2.2.2.2.2.2.2.2.2.2.1, h.2.2.2.2.2.2.2.2.2.2.2.2.2.2.1, h.2.2.2.2.2.2.2.2.2.2.2.2.2.2.2.1, h.2.2.2.2.2.2.2.2.2.2.2.2.2.2.2.2.1, h.2.2.2.2.2.2.2.2.2.2.2.2.2.2.2.2.2.1, h.2.2.2.2.2.2.2.2.2.2.2.2.2.2.2.2.2.2.1, h.2.2.2.2.2.2.2.2.2.2.2.2.2.2.2.2.2.2.2.1, h.2.2.2.2.2.2.2.2.2.2.2.2.2.2.2.2.2.2.2.2.1, h.2.2.2.2.2.2.2.2.2.2.2.2.2.2.2.2.2.2.2.2.2.1, h.2.2.2.2.2.2.2.2.2.2.2.2.2.2.2.2.2.2.2.2.2.2⟩
theorem igX9_21 {o : Ob} (h : IvX9 o) : 0 ≤ (gI o 21).toInt ∧ (gI o 21).toInt ≤ 12 := h.2.2.2.2.2.2.2.1
theorem ipX9_21 {o : Ob} {v : Int32} (h : IvX9 o) (hv : 0 ≤ v.toInt ∧ v.toInt ≤ 12) : IvX9 (sI o 21 v) := ⟨h.1, h.2.1, h.2.2.1, h.2.2.2.1, h.2.2.2.2.1, h.2.2.2.2.2.1, h.2.2.2.2.2.2.1, hv, h.2.2.2.2.2.2.2.2.1, h.2.2.2.2.2.2.2.2.2.1, h.2.2.2.2.2.2.2.2.2.2.1, h.2.2.2.2.2.2.2.2.2.2.2.1, h.2.2.2.2.2.2.2.2.2.2.2.2.1, h.2.2.2.2.2.2.2.2.2.2.2.2.2.1, h.2.2.2.2.2.2.2.2.2.2.2.2.2.2.1, h.2.2.2.2.2.2.2.2.2.2.2.2.2.2.2.1, h.2.2.2.2.2.2.2.2.2.2.2.2.2.2.2.2.1, h.2.2.2.2.2.2.2.2.2.2.2.2.2.2.2.2.2.1, h.2.2.2.2.2.2.2.2.2.2.2.2.2.2.2.2.2.2.1, h.2.2.2.2.2.2.2.2.2.2.2.2.2.2.2.2.2.2.2.1, h.2.2.2.2.2.2.2.2.2.2.2.2.2.2.2.2.2.2.2.2.1, h.2.2.2.2.2.2.2.2.2.2.2.2.2.2.2.2.2.2.2.2.2.1, h.2.2.2.2.2.2.2.2.2.2.2.2.2.2.2.2.2.2.2.2.2.2⟩
theorem igX9_23 {o : Ob} (h : IvX9 o) : 0 ≤ (gI o 23).toInt ∧ (gI o 23).toInt ≤ 400 := h.2.2.2.2.2.2.2.2.1
theorem ipX9_23 {o : Ob} {v : Int32} (h : IvX9 o) (hv : 0 ≤ v.toInt ∧ v.toInt ≤ 400) : IvX9 (sI o 23 v) := ⟨h.1, h.2.1, h.2.2.1, h.2.2.2.1, h.2.2.2.2.1, h.2.2.2.2.2.1, h.2.2.2.2.2.2.1, h.2.2.2.2.2.2.2.1, hv, h.2.2.2.2.2.2.2.2.2.1, h.2.2.2.2.2.2.2.2.2.2.1, h.2.2.2.2.2.2.2.2.2.2.2.1, h.2.2.2.2.2.2.2.2.2.2.2.2.1, h.2.2.2.2.2.2.2.2.2.2.2.2.2.1, h.2.2.2.2.2.2.2.2.2.2.2.2.2.2.1, h.2.2.2.2.2.2.2.2.2.2.2.2.2.2.2.1, h.2.2.2.2.2.2.2.2.2.2.2.2.2.2.2.2.1, h.2.2.2.2.2.2.2.2.2.2.2.2.2.2.2.2.2.1, h.2.2.2.2.2.2.2.2.2.2.2.2.2.2.2.2.2.2.1, h.2.2.2.2.2.2.2.2.2.2.2.2.2.2.2.2.2.2.2.1, h.2.2.2.2.2.2.2.2.2.2.2.2.2.2.2.2.2.2.2.2.1, h.2.2.2.2.2.2.2.2.2.2.2.2.2.2.2.2.2.2.2.2.2.1, h.2.2.2.2.2.2.2.2.2.2.2.2.2.2.2.2.2.2.2.2.2.2⟩
theorem igX9_26 {o : Ob} (h : IvX9 o) : 0 ≤ (gI o 26).toInt ∧ (gI o 26).toInt ≤ 50 := h.2.2.2.2.2.2.2.2.2.1
theorem ipX9_26 {o : Ob} {v : Int32} (h : IvX9 o) (hv : 0 ≤ v.toInt ∧ v.toInt ≤ 50) : IvX9 (sI o 26 v) := ⟨h.1, h.2.1, h.2.2.1, h.2.2.2.1, h.2.2.2.2.1, h.2.2.2.2.2.1, h.2.2.2.2.2.2.1, h.2.2.2.2.2.2.2.1, h.2.2.2.2.2.2.2.2.1, hv, h.2.2.2.2.2.2.2.2.2.2.1, h.2.2.2.2.2.2.2.2.2.2.2.1, h.2.2.2.2.2.2.2.2.2.2.2.2.1, h.2.2.2.2.2.2.2.2.2.2.2.2.2.1, h.2.2.2.2.2.2.2.2.2.2.2.2.2.2.1, h.2.2.2.2.2.2.2.2.2.2.2.2.2.2.2.1, h.2.2.2.2.2.2.2.2.2.2.2.2.2.2.2.2.1, h.2.2.2.2.2.2.2.2.2.2.2.2.2.2.2.2.2.1, h.2.2.2.2.2.2.2.2.2.2.2.2.2.2.2.2.2.2.1, h.2.2.2.2.2.2.2.2.2.2.2.2.2.2.2.2.2.2.2.1, h.2.2.2.2.2.2.2.2.2.2.2.2.2.2.2.2.2.2.2.2.1, h.2.2.2.2.2.2.2.2.2.2.2.2.2.2.2.2.2.2.2.2.2.1, h.2.2.2.2.2.2.2.2.2.2.2.2.2.2.2.2.2.2.2.2.2.2⟩
theorem igX9_29 {o : Ob} (h : IvX9 o) : 0 ≤ (gI o 29).toInt ∧ (gI o 29).toInt ≤ 400 := h.2.2.2.2.2.2.2.2.2.2.1
theorem ipX9_29 {o : Ob} {v : Int32} (h : IvX9 o) (hv : 0 ≤ v.toInt ∧ v.toInt ≤ 400) : IvX9 (sI o 29 v) := ⟨h.1, h.2.1, h.2.2.1, h.2.2.2.1, h.2.2.2.2.1, h.2.2.2.2.2.1, h.2.2.2.2.2.2.1, h.2.2.2.2.2.2.2.1, h.2.2.2.2.2.2.2.2.1, h.2.2.2.2.2.2.2.2.2.1, hv, h.2.2.2.2.2.2.2.2.2.2.2.1, h.2.2.2.2.2.2.2.2.2.2.2.2.1, h.2.2.2.2.2.2.2.2.2.2.2.2.2.1, h.2.2.2.2.2.2.2.2.2.2.2.2.2.2.1, h.2.2.2.2.2.2.2.2.2.2.2.2.2.2.2.1, h.2.2.2.2.2.2.2.2.2.2.2.2.2.2.2.2.1, h.2.2.2.2.2.2.2.2.2.2.2.2.2.2.2.2.2.1, h.2.2.2.2.2.2.2.2.2.2.2.2.2.2.2.2.2.2.1, h.2.2.2.2.2.2.2.2.2.2.2.2.2.2.2.2.2.2.2.1, h.2.2.2.2.2.2.2.2.2.2.2.2.2.2.2.2.2.2.2.2.1, h.2.2.2.2.2.2.2.2.2.2.2.2.2.2.2.2.2.2.2.2.2.1, h.2.2.2.2.2.2.2.2.2.2.2.2.2.2.2.2.2.2.2.2.2.2⟩
theorem igX9_38 {o : Ob} (h : IvX9 o) : 0 ≤ (gI o 38).toInt ∧ (gI o 38).toInt ≤ 1 := h.2.2.2.2.2.2.2.2.2.2.2.1
theorem ipX9_38 {o : Ob} {v : Int32} (h : IvX9 o) (hv : 0 ≤ v.toInt ∧ v.toInt ≤ 1) : IvX9 (sI o 38 v) := ⟨h.1, h.2.1, h.2.2.1, h.2.2.2.1, h.2.2.2.2.1, h.2.2.2.2.2.1, h.2.2.2.2.2.2.1, h.2.2.2.2.2.2.2.1, h.2.2.2.2.2.2.2.2.1, h.2.2.2.2.2.2.2.2.2.1, h.2.2.2.2.2.2.2.2.2.2.1, hv, h.2.2.2.2.2.2.2.2.2.2.2.2.1, h.2.2.2.2.2.2.2.2.2.2.2.2.2.1, h.2.2.2.2.2.2.2.2.2.2.2.2.2.2.1, h.2.2.2.2.2.2.2.2.2.2.2.2.2.2.2.1, h.2.2.2.2.2.2.2.2.2.2.2.2.2.2.2.2.1, h.2.2.2.2.2.2.2.2.2.2.2.2.2.2.2.2.2.1, h.2.2.2.2.2.2.2.2.2.2.2.2.2.2.2.2.2.2.1, h.2.2.2.2.2.2.2.2.2.2.2.2.2.2.2.2.2.2.2.1, h.2.2.2.2.2.2.2.2.2.2.2.2.2.2.2.2.2.2.2.2.1, h.2.2.2.2.2.2.2.2.2.2.2.2.2.2.2.2.2.2.2.2.2.1, h.2.2.2.2.2.2.2.2.2.2.2.2.2.2.2.2.2.2.2.2.2.2⟩
theorem igX9_43 {o : Ob} (h : IvX9 o) : 0 ≤ (gI o 43).toInt ∧ (gI o 43).toInt ≤ 7 := h.2.2.2.2.2.2.2.2.2.2.2.2.1
theorem ipX9_43 {o : Ob} {v : Int32} (h : IvX9 o) (hv : 0 ≤ v.toInt ∧ v.toInt ≤ 7) : IvX9 (sI o 43 v) := ⟨h.1, h.2.1, h.2.2.1, h.2.2.2.1, h.2.2.2.2.1, h.2.2.2.2.2.1, h.2.2.2.2.2.2.1, h.2.2.2.2.2.2.2.1, h.2.2.2.2.2.2.2.2.1, h.2.2.2.2.2.2.2.2.2.1, h.2.2.2.2.2.2.2.2.2.2.1, h.2.2.2.2.2.2.2.2.2.2.2.1, hv, h.2.2.2.2.2.2.2.2.2.2.2.2.2.1, h.2.2.2.2.2.2.2.2.2.2.2.2.2.2.1, h.2.2.2.2.2.2.2.2.2.2.2.2.2.2.2.1, h.2.2.2.2.2.2.2.2.2.2.2.2.2.2.2.2.1, h.2.2.2.2.2.2.2.2.2.2.2.2.2.2.2.2.2.1, h.2.2.2.2.2.2.2.2.2.2.2.2.2.2.2.2.2.2.1, h.2.2.2.2.2.2.2.2.2.2.2.2.2.2.2.2.2.2.2.1, h.2.2.2.2.2.2.2.2.2.2.2.2.2.2.2.2.2.2.2.2.1, h.2.2.2.2.2.2.2.2.2.2.2.2.2.2.2.2.2.2.2.2.2.1, h.2.2.2.2.2.2.2.2.2.2.2.2.2.2.2.2.2.2.2.2.2.2⟩
theorem igX9_59 {o : Ob} (h : IvX9 o) : 0 ≤ (gI o 59).toInt ∧ (gI o 59).toInt ≤ 1 := h.2.2.2.2.2.2.2.2.2.2.2.2.2.1
theorem ipX9_59 {o : Ob} {v : Int32} (h : IvX9 o) (hv : 0 ≤ v.toInt ∧ v.toInt ≤ 1) : IvX9 (sI o 59 v) := ⟨h.1, h.2.1, h.2.2.1, h.2.2.2.1, h.2.2.2.2.1, h.2.2.2.2.2.1, h.2.2.2.2.2.2.1, h.2.2.2.2.2.2.2.1, h.2.2.2.2.2.2.2.2.1, h.2.2.2.2.2.2.2.2.2.1, h.2.2.2.2.2.2.2.2.2.2.1, h.2.2.2.2.2.2.2.2.2.2.2.1, h.2.2.2.2.2.2.2.2.2.2.2.2.1, hv, h.2.2.2.2.2.2.2.2.2.2.2.2.2.2.1, h.2.2.2.2.2.2.2.2.2.2.2.2.2.2.2.1, h.2.2.2.2.2.2.2.2.2.2.2.2.2.2.2.2.1, h.2.2.2.2.2.2.2.2.2.2.2.2.2.2.2.2.2.1, h.2.2.2.2.2.2.2.2.2.2.2.2.2.2.2.2.2.2.1, h.2.2.2.2.2.2.2.2.2.2.2.2.2.2.2.2.2.2.2.1, h.2.2.2.2.2.2.2.2.2.2.2.2.2.2.2.2.2.2.2.2.1, h.2.2.2.2.2.2.2.2.2.2.2.2.2.2.2.2.2.2.2.2.2.1, h.2.2.2.2.2.2.2.2.2.2.2.2.2.2.2.2.2.2.2.2.2.2⟩
theorem igX9_62 {o : Ob} (h : IvX9 o) : (-1) ≤ (gI o 62).toInt ∧ (gI o 62).toInt ≤ 7 := h.2.2.2.2.2.2.2.2.2.2.2.2.2.2.1
theorem ipX9_62 {o : Ob} {v : Int32} (h : IvX9 o) (hv : (-1) ≤ v.toInt ∧ v.toInt ≤ 7) : IvX9 (sI o 62 v) := ⟨h.1, h.2.1, h.2.2.1, h.2.2.2.1, h.2.2.2.2.1, h.2.2.2.2.2.1, h.2.2.2.2.2.2.1, h.2.2.2.2.2.2.2.1, h.2.2.2.2.2.2.2.2.1, h.2.2.2.2.2.2.2.2.2.1, h.2.2.2.2.2.2.2.2.2.2.1, h.2.2.2.2.2.2.2.2.2.2.2.1, h.2.2.2.2.2.2.2.2.2.2.2.2.1, h.2.2.2.2.2.2.2.2.2.2.2.2.2.1, hv, h.2.2.2.2.2.2.2.2.2.2.2.2.2.2.2.1, h.2.2.2.2.2.2.2.2.2.2.2.2.2.2.2.2.1, h.2.2.2.2.2.2.2.2.2.2.2.2.2.2.2.2.2.1, h.2.2.2.2.2.2.2.2.2.2.2.2.2.2.2.2.2.2.1, h.2.2.2.2.2.2.2.2.2.2.2.2.2.2.2.2.2.2.2.1, h.2.2.2.2.2.2.2.2.2.2.2.2.2.2.2.2.2.2.2.2.1, h.2.2.2.2.2.2.2.2.2.2.2.2.2.2.2.2.2.2.2.2.2.1, h.2.2.2.2.2.2.2.2.2.2.2.2.2.2.2.2.2.2.2.2.2.2⟩
theorem iaX9_3_0 {o : Ob} (h : IvX9 o) {j : Int32} (h0 : 0 ≤ j.toInt) (h1 : j.toInt ≤ 0) : 0 ≤ (gA o 3 j.toNatClampNeg).toInt ∧ (gA o 3 j.toNatClampNeg).toInt ≤ 7 := sg_rd (h.2.2.2.2.2.2.2.2.2.2.2.2.2.2.2.1.1) (by omega) (by omega)
theorem iaX9_3_1 {o : Ob} (h : IvX9 o) {j : Int32} (h0 : 1 ≤ j.toInt) (h1 : j.toInt ≤ 1) : 0 ≤ (gA o 3 j.toNatClampNeg).toInt ∧ (gA o 3 j.toNatClampNeg).toInt ≤ 6 := sg_rd (h.2.2.2.2.2.2.2.2.2.2.2.2.2.2.2.1.2.1) (by omega) (by omega)
theorem iaX9_3_2 {o : Ob} (h : IvX9 o) {j : Int32} (h0 : 2 ≤ j.toInt) (h1 : j.toInt ≤ 2) : 0 ≤ (gA o 3 j.toNatClampNeg).toInt ∧ (gA o 3 j.toNatClampNeg).toInt ≤ 6 := sg_rd (h.2.2.2.2.2.2.2.2.2.2.2.2.2.2.2.1.2.2.1) (by omega) (by omega)
theorem iaX9_3_3 {o : Ob} (h : IvX9 o) {j : Int32} (h0 : 3 ≤ j.toInt) (h1 : j.toInt ≤ 3) : (-1) ≤ (gA o 3 j.toNatClampNeg).toInt ∧ (gA o 3 j.toNatClampNeg).toInt ≤ 5 := sg_rd (h.2.2.2.2.2.2.2.2.2.2.2.2.2.2.2.1.2.2.2.1) (by omega) (by omega)
theorem iaX9_3_4 {o : Ob} (h : IvX9 o) {j : Int32} (h0 : 7 ≤ j.toInt) (h1 : j.toInt ≤ 7) : 0 ≤ (gA o 3 j.toNatClampNeg).toInt ∧ (gA o 3 j.toNatClampNeg).toInt ≤ 999 := sg_rd (h.2.2.2.2.2.2.2.2.2.2.2.2.2.2.2.1.2.2.2.2.1) (by omega) (by omega)
theorem iaX9_3_5 {o : Ob} (h : IvX9 o) {j : Int32} (h0 : 8 ≤ j.toInt) (h1 : j.toInt ≤ 14) : 0 ≤ (gA o 3 j.toNatClampNeg).toInt ∧ (gA o 3 j.toNatClampNeg).toInt ≤ 9 := sg_rd (h.2.2.2.2.2.2.2.2.2.2.2.2.2.2.2.1.2.2.2.2.2.1) (by omega) (by omega)
theorem iaX9_3_6 {o : Ob} (h : IvX9 o) {j : Int32} (h0 : 22 ≤ j.toInt) (h1 : j.toInt ≤ 28) : 0 ≤ (gA o 3 j.toNatClampNeg).toInt ∧ (gA o 3 j.toNatClampNeg).toInt ≤ 1 := sg_rd (h.2.2.2.2.2.2.2.2.2.2.2.2.2.2.2.1.2.2.2.2.2.2.1) (by omega) (by omega)
theorem iaX9_3_7 {o : Ob} (h : IvX9 o) {j : Int32} (h0 : 29 ≤ j.toInt) (h1 : j.toInt ≤ 35) : (-1) ≤ (gA o 3 j.toNatClampNeg).toInt ∧ (gA o 3 j.toNatClampNeg).toInt ≤ 6 := sg_rd (h.2.2.2.2.2.2.2.2.2.2.2.2.2.2.2.1.2.2.2.2.2.2.2.1) (by omega) (by omega)
theorem iaX9_3_8 {o : Ob} (h : IvX9 o) {j : Int32} (h0 : 71 ≤ j.toInt) (h1 : j.toInt ≤ 82) : 0 ≤ (gA o 3 j.toNatClampNeg).toInt ∧ (gA o 3 j.toNatClampNeg).toInt ≤ 9 := sg_rd (h.2.2.2.2.2.2.2.2.2.2.2.2.2.2.2.1.2.2.2.2.2.2.2.2.1) (by omega) (by omega)
theorem ibX9_3 {o : Ob} {j v : Int32} (h : IvX9 o) (hj : 0 ≤ j.toInt) (hm : j.toInt ≤ 83) (h0 : j.toInt < 0 ∨ 0 < j.toInt ∨ (0 ≤ v.toInt ∧ v.toInt ≤ 7)) (h1 : j.toInt < 1 ∨ 1 < j.toInt ∨ (0 ≤ v.toInt ∧ v.toInt ≤ 6)) (h2 : j.toInt < 2 ∨ 2 < j.toInt ∨ (0 ≤ v.toInt ∧ v.toInt ≤ 6)) (h3 : j.toInt < 3 ∨ 3 < j.toInt ∨ ((-1) ≤ v.toInt ∧ v.toInt ≤ 5)) (h4 : j.toInt < 7 ∨ 7 < j.toInt ∨ (0 ≤ v.toInt ∧ v.toInt ≤ 999)) (h5 : j.toInt < 8 ∨ 14 < j.toInt ∨ (0 ≤ v.toInt ∧ v.toInt ≤ 9)) (h6 : j.toInt < 22 ∨ 28 < j.toInt ∨ (0 ≤ v.toInt ∧ v.toInt ≤ 1)) (h7 : j.toInt < 29 ∨ 35 < j.toInt ∨ ((-1) ≤ v.toInt ∧ v.toInt ≤ 6)) (h8 : j.toInt < 71 ∨ 82 < j.toInt ∨ (0 ≤ v.toInt ∧ v.toInt ≤ 9)) : IvX9 (tA o 3 j.toNatClampNeg v) := ⟨h.1, h.2.1, h.2.2.1, h.2.2.2.1, h.2.2.2.2.1, h.2.2.2.2.2.1, h.2.2.2.2.2.2.1, h.2.2.2.2.2.2.2.1, h.2.2.2.2.2.2.2.2.1, h.2.2.2.2.2.2.2.2.2.1, h.2.2.2.2.2.2.2.2.2.2.1, h.2.2.2.2.2.2.2.2.2.2.2.1, h.2.2.2.2.2.2.2.2.2.2.2.2.1, h.2.2.2.2.2.2.2.2.2.2.2.2.2.1, h.2.2.2.2.2.2.2.2.2.2.2.2.2.2.1, ⟨sg_up (h.2.2.2.2.2.2.2.2.2.2.2.2.2.2.2.1.1) hj (by omega), sg_up (h.2.2.2.2.2.2.2.2.2.2.2.2.2.2.2.1.2.1) hj (by omega), sg_up (h.2.2.2.2.2.2.2.2.2.2.2.2.2.2.2.1.2.2.1) hj (by omega), sg_up (h.2.2.2.2.2.2.2.2.2.2.2.2.2.2.2.1.2.2.2.1) hj (by omega), sg_up (h.2.2.2.2.2.2.2.2.2.2.2.2.2.2.2.1.2.2.2.2.1) hj (by omega), sg_up (h.2.2.2.2.2.2.2.2.2.2.2.2.2.2.2.1.2.2.2.2.2.1) hj (by omega), sg_up (h.2.2.2.2.2.2.2.2.2.2.2.2.2.2.2.1.2.2.2.2.2.2.1) hj (by omega), sg_up (h.2.2.2.2.2.2.2.2.2.2.2.2.2.2.2.1.2.2.2.2.2.2.2.1) hj (by omega), sg_up (h.2.2.2.2.2.2.2.2.2.2.2.2.2.2.2.1.2.2.2.2.2.2.2.2.1) hj (by omega), trivial⟩, h.2.2.2.2.2.2.2.2.2.2.2.2.2.2.2.2.1, h.2.2.2.2.2.2.2.2.2.2.2.2.2.2.2.2.2.1, h.2.2.2.2.2.2.2.2.2.2.2.2.2.2.2.2.2.2.1, h.2.2.2.2.2.2.2.2.2.2.2.2.2.2.2.2.2.2.2.1, h.2.2.2.2.2.2.2.2.2.2.2.2.2.2.2.2.2.2.2.2.1, h.2.2.2.2.2.2.2.2.2.2.2.2.2.2.2.2.2.2.2.2.2.1, ⟨exX9_3 h.2.2.2.2.2.2.2.2.2.2.2.2.2.2.2.2.2.2.2.2.2.2.1 hj hm, h.2.2.2.2.2.2.2.2.2.2.2.2.2.2.2.2.2.2.2.2.2.2.2⟩⟩
theorem iaX9_7_0 {o : Ob} (h : IvX9 o) {j : Int32} (h0 : 0 ≤ j.toInt) (h1 : j.toInt ≤ 15) : 0 ≤ (gA o 7 j.toNatClampNeg).toInt ∧ (gA o 7 j.toNatClampNeg).toInt ≤ 3 := sg_rd (h.2.2.2.2.2.2.2.2.2.2.2.2.2.2.2.2.1.1) (by omega) (by omega)
theorem ibX9_7 {o : Ob} {j v : Int32} (h : IvX9 o) (hj : 0 ≤ j.toInt) (h0 : j.toInt < 0 ∨ 15 < j.toInt ∨ (0 ≤ v.toInt ∧ v.toInt ≤ 3)) : IvX9 (tA o 7 j.toNatClampNeg v) := ⟨h.1, h.2.1, h.2.2.1, h.2.2.2.1, h.2.2.2.2.1, h.2.2.2.2.2.1, h.2.2.2.2.2.2.1, h.2.2.2.2.2.2.2.1, h.2.2.2.2.2.2.2.2.1, h.2.2.2.2.2.2.2.2.2.1, h.2.2.2.2.2.2.2.2.2.2.1, h.2.2.2.2.2.2.2.2.2.2.2.1, h.2.2.2.2.2.2.2.2.2.2.2.2.1, h.2.2.2.2.2.2.2.2.2.2.2.2.2.1, h.2.2.2.2.2.2.2.2.2.2.2.2.2.2.1, h.2.2.2.2.2.2.2.2.2.2.2.2.2.2.2.1, ⟨sg_up (h.2.2.2.2.2.2.2.2.2.2.2.2.2.2.2.2.1.1) hj (by omega), trivial⟩, h.2.2.2.2.2.2.2.2.2.2.2.2.2.2.2.2.2.1, h.2.2.2.2.2.2.2.2.2.2.2.2.2.2.2.2.2.2.1, h.2.2.2.2.2.2.2.2.2.2.2.2.2.2.2.2.2.2.2.1, h.2.2.2.2.2.2.2.2.2.2.2.2.2.2.2.2.2.2.2.2.1, h.2.2.2.2.2.2.2.2.2.2.2.2.2.2.2.2.2.2.2.2.2.1, h.2.2.2.2.2.2.2.2.2.2.2.2.2.2.2.2.2.2.2.2.2.2⟩
theorem iaX9_10_0 {o : Ob} (h : IvX9 o) {j : Int32} (h0 : 0 ≤ j.toInt) (h1 : j.toInt ≤ 15) : 0 ≤ (gA o 10 j.toNatClampNeg).toInt ∧ (gA o 10 j.toNatClampNeg).toInt ≤ 3 := sg_rd (h.2.2.2.2.2.2.2.2.2.2.2.2.2.2.2.2.2.1.1) (by omega) (by omega)
theorem ibX9_10 {o : Ob} {j v : Int32} (h : IvX9 o) (hj : 0 ≤ j.toInt) (h0 : j.toInt < 0 ∨ 15 < j.toInt ∨ (0 ≤ v.toInt ∧ v.toInt ≤ 3)) : IvX9 (tA o 10 j.toNatClampNeg v) := ⟨h.1, h.2.1, h.2.2.1, h.2.2.2.1, h.2.2.2.2.1, h.2.2.2.2.2.1, h.2.2.2.2.2.2.1, h.2.2.2.2.2.2.2.1, h.2.2.2.2.2.2.2.2.1, h.2.2.2.2.2.2.2.2.2.1, h.2.2.2.2.2.2.2.2.2.2.1, h.2.2.2.2.2.2.2.2.2.2.2.1, h.2.2.2.2.2.2.2.2.2.2.2.2.1, h.2.2.2.2.2.2.2.2.2.2.2.2.2.1, h.2.2.2.2.2.2.2.2.2.2.2.2.2.2.1, h.2.2.2.2.2.2.2.2.2.2.2.2.2.2.2.1, h.2.2.2.2.2.2.2.2.2.2.2.2.2.2.2.2.1, ⟨sg_up (h.2.2.2.2.2.2.2.2.2.2.2.2.2.2.2.2.2.1.1) hj (by omega), trivial⟩, h.2.2.2.2.2.2.2.2.2.2.2.2.2.2.2.2.2.2.1, h.2.2.2.2.2.2.2.2.2.2.2.2.2.2.2.2.2.2.2.1, h.2.2.2.2.2.2.2.2.2.2.2.2.2.2.2.2.2.2.2.2.1, h.2.2.2.2.2.2.2.2.2.2.2.2.2.2.2.2.2.2.2.2.2.1, h.2.2.2.2.2.2.2.2.2.2.2.2.2.2.2.2.2.2.2.2.2.2⟩
theorem iaX9_42_0 {o : Ob} (h : IvX9 o) {j : Int32} (h0 : 0 ≤ j.toInt) (h1 : j.toInt ≤ 6) : 0 ≤ (gA o 42 j.toNatClampNeg).toInt ∧ (gA o 42 j.toNatClampNeg).toInt ≤ 6 := sg_rd (h.2.2.2.2.2.2.2.2.2.2.2.2.2.2.2.2.2.2.1.1) (by omega) (by omega)
theorem ibX9_42 {o : Ob} {j v : Int32} (h : IvX9 o) (hj : 0 ≤ j.toInt) (h0 : j.toInt < 0 ∨ 6 < j.toInt ∨ (0 ≤ v.toInt ∧ v.toInt ≤ 6)) : IvX9 (tA o 42 j.toNatClampNeg v) := ⟨h.1, h.2.1, h.2.2.1, h.2.2.2.1, h.2.2.2.2.1, h.2.2.2.2.2.1, h.2.2.2.2.2.2.1, h.2.2.2.2.2.2.2.1, h.2.2.2.2.2.2.2.2.1, h.2.2.2.2.2.2.2.2.2.1, h.2.2.2.2.2.2.2.2.2.2.1, h.2.2.2.2.2.2.2.2.2.2.2.1, h.2.2.2.2.2.2.2.2.2.2.2.2.1, h.2.2.2.2.2.2.2.2.2.2.2.2.2.1, h.2.2.2.2.2.2.2.2.2.2.2.2.2.2.1, h.2.2.2.2.2.2.2.2.2.2.2.2.2.2.2.1, h.2.2.2.2.2.2.2.2.2.2.2.2.2.2.2.2.1, h.2.2.2.2.2.2.2.2.2.2.2.2.2.2.2.2.2.1, ⟨sg_up (h.2.2.2.2.2.2.2.2.2.2.2.2.2.2.2.2.2.2.1.1) hj (by omega), trivial⟩, h.2.2.2.2.2.2.2.2.2.2.2.2.2.2.2.2.2.2.2.1, h.2.2.2.2.2.2.2.2.2.2.2.2.2.2.2.2.2.2.2.2.1, h.2.2.2.2.2.2.2.2.2.2.2.2.2.2.2.2.2.2.2.2.2.1, h.2.2.2.2.2.2.2.2.2.2.2.2.2.2.2.2.2.2.2.2.2.2⟩
theorem iaX9_48_0 {o : Ob} (h : IvX9 o) {j : Int32} (h0 : 0 ≤ j.toInt) (h1 : j.toInt ≤ 4) : (-1) ≤ (gA o 48 j.toNatClampNeg).toInt ∧ (gA o 48 j.toNatClampNeg).toInt ≤ 8 := sg_rd (h.2.2.2.2.2.2.2.2.2.2.2.2.2.2.2.2.2.2.2.1.1) (by omega) (by omega)
theorem ibX9_48 {o : Ob} {j v : Int32} (h : IvX9 o) (hj : 0 ≤ j.toInt) (h0 : j.toInt < 0 ∨ 4 < j.toInt ∨ ((-1) ≤ v.toInt ∧ v.toInt ≤ 8)) : IvX9 (tA o 48 j.toNatClampNeg v) := ⟨h.1, h.2.1, h.2.2.1, h.2.2.2.1, h.2.2.2.2.1, h.2.2.2.2.2.1, h.2.2.2.2.2.2.1, h.2.2.2.2.2.2.2.1, h.2.2.2.2.2.2.2.2.1, h.2.2.2.2.2.2.2.2.2.1, h.2.2.2.2.2.2.2.2.2.2.1, h.2.2.2.2.2.2.2.2.2.2.2.1, h.2.2.2.2.2.2.2.2.2.2.2.2.1, h.2.2.2.2.2.2.2.2.2.2.2.2.2.1, h.2.2.2.2.2.2.2.2.2.2.2.2.2.2.1, h.2.2.2.2.2.2.2.2.2.2.2.2.2.2.2.1, h.2.2.2.2.2.2.2.2.2.2.2.2.2.2.2.2.1, h.2.2.2.2.2.2.2.2.2.2.2.2.2.2.2.2.2.1, h.2.2.2.2.2.2.2.2.2.2.2.2.2.2.2.2.2.2.1, ⟨sg_up (h.2.2.2.2.2.2.2.2.2.2.2.2.2.2.2.2.2.2.2.1.1) hj (by omega), trivial⟩, h.2.2.2.2.2.2.2.2.2.2.2.2.2.2.2.2.2.2.2.2.1, h.2.2.2.2.2.2.2.2.2.2.2.2.2.2.2.2.2.2.2.2.2.1, h.2.2.2.2.2.2.2.2.2.2.2.2.2.2.2.2.2.2.2.2.2.2⟩
theorem iaX9_50_0 {o : Ob} (h : IvX9 o) {j : Int32} (h0 : 0 ≤ j.toInt) (h1 : j.toInt ≤ 13) : 0 ≤ (gA o 50 j.toNatClampNeg).toInt ∧ (gA o 50 j.toNatClampNeg).toInt ≤ 6 := sg_rd (h.2.2.2.2.2.2.2.2.2.2.2.2.2.2.2.2.2.2.2.2.1.1) (by omega) (by omega)
theorem ibX9_50 {o : Ob} {j v : Int32} (h : IvX9 o) (hj : 0 ≤ j.toInt) (h0 : j.toInt < 0 ∨ 13 < j.toInt ∨ (0 ≤ v.toInt ∧ v.toInt ≤ 6)) : IvX9 (tA o 50 j.toNatClampNeg v) := ⟨h.1, h.2.1, h.2.2.1, h.2.2.2.1, h.2.2.2.2.1, h.2.2.2.2.2.1, h.2.2.2.2.2.2.1, h.2.2.2.2.2.2.2.1, h.2.2.2.2.2.2.2.2.1, h.2.2.2.2.2.2.2.2.2.1, h.2.2.2.2.2.2.2.2.2.2.1, h.2.2.2.2.2.2.2.2.2.2.2.1, h.2.2.2.2.2.2.2.2.2.2.2.2.1, h.2.2.2.2.2.2.2.2.2.2.2.2.2.1, h.2.2.2.2.2.2.2.2.2.2.2.2.2.2.1, h.2.2.2.2.2.2.2.2.2.2.2.2.2.2.2.1, h.2.2.2.2.2.2.2.2.2.2.2.2.2.2.2.2.1, h.2.2.2.2.2.2.2.2.2.2.2.2.2.2.2.2.2.1, h.2.2.2.2.2.2.2.2.2.2.2.2.2.2.2.2.2.2.1, h.2.2.2.2.2.2.2.2.2.2.2.2.2.2.2.2.2.2.2.1, ⟨sg_up (h.2.2.2.2.2.2.2.2.2.2.2.2.2.2.2.2.2.2.2.2.1.1) hj (by omega), trivial⟩, h.2.2.2.2.2.2.2.2.2.2.2.2.2.2.2.2.2.2.2.2.2.1, h.2.2.2.2.2.2.2.2.2.2.2.2.2.2.2.2.2.2.2.2.2.2⟩
theorem iaX9_51_0 {o : Ob} (h : IvX9 o) {j : Int32} (h0 : 0 ≤ j.toInt) (h1 : j.toInt ≤ 6) : 0 ≤ (gA o 51 j.toNatClampNeg).toInt ∧ (gA o 51 j.toNatClampNeg).toInt ≤ 6 := sg_rd (h.2.2.2.2.2.2.2.2.2.2.2.2.2.2.2.2.2.2.2.2.2.1.1) (by omega) (by omega)
theorem ibX9_51 {o : Ob} {j v : Int32} (h : IvX9 o) (hj : 0 ≤ j.toInt) (h0 : j.toInt < 0 ∨ 6 < j.toInt ∨ (0 ≤ v.toInt ∧ v.toInt ≤ 6)) : IvX9 (tA o 51 j.toNatClampNeg v) := ⟨h.1, h.2.1, h.2.2.1, h.2.2.2.1, h.2.2.2.2.1, h.2.2.2.2.2.1, h.2.2.2.2.2.2.1, h.2.2.2.2.2.2.2.1, h.2.2.2.2.2.2.2.2.1, h.2.2.2.2.2.2.2.2.2.1, h.2.2.2.2.2.2.2.2.2.2.1, h.2.2.2.2.2.2.2.2.2.2.2.1, h.2.2.2.2.2.2.2.2.2.2.2.2.1, h.2.2.2.2.2.2.2.2.2.2.2.2.2.1, h.2.2.2.2.2.2.2.2.2.2.2.2.2.2.1, h.2.2.2.2.2.2.2.2.2.2.2.2.2.2.2.1, h.2.2.2.2.2.2.2.2.2.2.2.2.2.2.2.2.1, h.2.2.2.2.2.2.2.2.2.2.2.2.2.2.2.2.2.1, h.2.2.2.2.2.2.2.2.2.2.2.2.2.2.2.2.2.2.1, h.2.2.2.2.2.2.2.2.2.2.2.2.2.2.2.2.2.2.2.1, h.2.2.2.2.2.2.2.2.2.2.2.2.2.2.2.2.2.2.2.2.1, ⟨sg_up (h.2.2.2.2.2.2.2.2.2.2.2.2.2.2.2.2.2.2.2.2.2.1.1) hj (by omega), trivial⟩, h.2.2.2.2.2.2.2.2.2.2.2.2.2.2.2.2.2.2.2.2.2.2⟩
theorem irX2 {pl : List CR} {o : Ob} (h : IvX2 pl o) {j : Int32} (h0 : 0 ≤ j.toInt) (h1 : j.toInt ≤ 5) : zpo pl (gR o 6 j.toNatClampNeg) = true := by
  have e : j.toNatClampNeg = j.toInt.toNat := rfl
  exact h.2.2.2.2.2 _ (by rw [e]; omega)
theorem iqX2 {pl : List CR} {o : Ob} {j : Nat} {v : Option Nat} (h : IvX2 pl o) (hv : zpo pl v = true) : IvX2 pl (tR o 6 j v) := by
  refine ⟨h.1, h.2.1, h.2.2.1, h.2.2.2.1, h.2.2.2.2.1, fun i hi => ?_⟩
  show zpo pl (if i = j then v else gR o 6 i) = true
  split
  · exact hv
  · exact h.2.2.2.2.2 i hi
theorem ilX9_60 {o : Ob} {v : Int64} (h : IvX9 o) (hv : 0 ≤ v.toInt ∧ v.toInt ≤ 1000002) : IvX9 (sL o 60 v) := ⟨h.1, h.2.1, h.2.2.1, h.2.2.2.1, h.2.2.2.2.1, h.2.2.2.2.2.1, h.2.2.2.2.2.2.1, h.2.2.2.2.2.2.2.1, h.2.2.2.2.2.2.2.2.1, h.2.2.2.2.2.2.2.2.2.1, h.2.2.2.2.2.2.2.2.2.2.1, h.2.2.2.2.2.2.2.2.2.2.2.1, h.2.2.2.2.2.2.2.2.2.2.2.2.1, h.2.2.2.2.2.2.2.2.2.2.2.2.2.1, h.2.2.2.2.2.2.2.2.2.2.2.2.2.2.1, h.2.2.2.2.2.2.2.2.2.2.2.2.2.2.2.1, h.2.2.2.2.2.2.2.2.2.2.2.2.2.2.2.2.1, h.2.2.2.2.2.2.2.2.2.2.2.2.2.2.2.2.2.1, h.2.2.2.2.2.2.2.2.2.2.2.2.2.2.2.2.2.2.1, h.2.2.2.2.2.2.2.2.2.2.2.2.2.2.2.2.2.2.2.1, h.2.2.2.2.2.2.2.2.2.2.2.2.2.2.2.2.2.2.2.2.1, h.2.2.2.2.2.2.2.2.2.2.2.2.2.2.2.2.2.2.2.2.2.1, h.2.2.2.2.2.2.2.2.2.2.2.2.2.2.2.2.2.2.2.2.2.2.1, hv⟩
theorem h9last {o : Ob} (h : IvX9 o) : EX9 (gA o 3) (gA o 4) (gA o 6) (gA o 9) ∧ (0 ≤ (gL o 60).toInt ∧ (gL o 60).toInt ≤ 1000002) := h.2.2.2.2.2.2.2.2.2.2.2.2.2.2.2.2.2.2.2.2.2.2
theorem segX9_3 {o : Ob} (h : IvX9 o) : sgd rowS (gA o 3) := h.2.2.2.2.2.2.2.2.2.2.2.2.2.2.2.1
theorem tnc_eq {i : Int32} {n : Nat} (h : i.toInt = (n : Int)) : i.toNatClampNeg = n := by
  have e : i.toNatClampNeg = i.toInt.toNat := rfl
  rw [e, h]; rfl
theorem spX9_und {o : Ob} {n : Nat} {v : Int32} (h : IvX9 o) (hv : ∀ k i : Nat, k < 18 → i < 25 → 25 * k + i = n → PW rowS (4 + i) v) : IvX9 (tA o 6 n v) := by
  have hx := h.2.2.2.2.2.2.2.2.2.2.2.2.2.2.2.2.2.2.2.2.2.2
  refine ⟨h.1, h.2.1, h.2.2.1, h.2.2.2.1, h.2.2.2.2.1, h.2.2.2.2.2.1, h.2.2.2.2.2.2.1, h.2.2.2.2.2.2.2.1, h.2.2.2.2.2.2.2.2.1, h.2.2.2.2.2.2.2.2.2.1, h.2.2.2.2.2.2.2.2.2.2.1, h.2.2.2.2.2.2.2.2.2.2.2.1, h.2.2.2.2.2.2.2.2.2.2.2.2.1, h.2.2.2.2.2.2.2.2.2.2.2.2.2.1, h.2.2.2.2.2.2.2.2.2.2.2.2.2.2.1, h.2.2.2.2.2.2.2.2.2.2.2.2.2.2.2.1, h.2.2.2.2.2.2.2.2.2.2.2.2.2.2.2.2.1, h.2.2.2.2.2.2.2.2.2.2.2.2.2.2.2.2.2.1, h.2.2.2.2.2.2.2.2.2.2.2.2.2.2.2.2.2.2.1, h.2.2.2.2.2.2.2.2.2.2.2.2.2.2.2.2.2.2.2.1, h.2.2.2.2.2.2.2.2.2.2.2.2.2.2.2.2.2.2.2.2.1, h.2.2.2.2.2.2.2.2.2.2.2.2.2.2.2.2.2.2.2.2.2.1, ⟨hx.1.1, hx.1.2.1, fun k i hk hi => ?_, hx.1.2.2.2⟩, hx.2⟩
  show PW rowS (4 + i) (if 25 * k + i = n then v else gA o 6 (25 * k + i))
  split
  · exact hv k i hk hi (by assumption)
  · exact hx.1.2.2.1 k i hk hi
theorem spX9_keep {o : Ob} {a b : Int32} (h : IvX9 o) (ha : 0 ≤ a.toInt ∧ a.toInt ≤ 17) (hb : 0 ≤ b.toInt ∧ b.toInt ≤ 24) : IvX9 (tA o 6 (((25 : Int32) * a) + b).toNatClampNeg (gA o 3 ((4 : Int32) + b).toNatClampNeg)) := by
  have e1 : ((25 : Int32) * a).toInt = 25 * a.toInt := i32_mul (by decide) rfl (by omega) (by omega)
  have e2 : (((25 : Int32) * a) + b).toInt = 25 * a.toInt + b.toInt := i32_add e1 rfl (by omega) (by omega)
  have e3 : ((4 : Int32) + b).toInt = 4 + b.toInt := i32_add (by decide) rfl (by omega) (by omega)
  refine spX9_und h (fun k i hk hi e => ?_)
  have e4 : (((25 : Int32) * a) + b).toNatClampNeg = (((25 : Int32) * a) + b).toInt.toNat := rfl
  rw [e4] at e
  have e5 : ((4 : Int32) + b).toNatClampNeg = 4 + i := tnc_eq (by omega)
  rw [e5]
  exact sgd_pw.mp (segX9_3 h) (4 + i)
theorem spX9_shift {o : Ob} {b : Int32} (h : IvX9 o) (hb : 0 ≤ b.toInt ∧ b.toInt ≤ 374) : IvX9 (tA o 6 b.toNatClampNeg (gA o 6 (b + (25 : Int32)).toNatClampNeg)) := by
  have e3 : (b + (25 : Int32)).toInt = b.toInt + 25 := i32_add rfl (by decide) (by omega) (by omega)
  refine spX9_und h (fun k i hk hi e => ?_)
  have e4 : b.toNatClampNeg = b.toInt.toNat := rfl
  rw [e4] at e
  have e5 : (b + (25 : Int32)).toNatClampNeg = 25 * (k + 1) + i := tnc_eq (by omega)
  rw [e5]
  have hx := h.2.2.2.2.2.2.2.2.2.2.2.2.2.2.2.2.2.2.2.2.2.2
  exact hx.1.2.2.1 (k + 1) i (by omega) hi
theorem spX9_give {o : Ob} {b : Int32} (h : IvX9 o) (hb : 0 ≤ b.toInt ∧ b.toInt ≤ 399) : IvX9 (tA o 6 b.toNatClampNeg (gA o 9 b.toNatClampNeg)) := by
  refine spX9_und h (fun k i hk hi e => ?_)
  have e4 : b.toNatClampNeg = b.toInt.toNat := rfl
  rw [e4] at e
  have e5 : b.toNatClampNeg = 25 * k + i := tnc_eq (by omega)
  rw [e5]
  have hx := h.2.2.2.2.2.2.2.2.2.2.2.2.2.2.2.2.2.2.2.2.2.2
  exact hx.1.2.2.2 k i (by omega) hi
theorem spX9_befo {o : Ob} {b : Int32} (h : IvX9 o) (hb : 0 ≤ b.toInt ∧ b.toInt ≤ 399) : IvX9 (tA o 9 b.toNatClampNeg (gA o 6 b.toNatClampNeg)) := by
  have hx := h.2.2.2.2.2.2.2.2.2.2.2.2.2.2.2.2.2.2.2.2.2.2
  refine ⟨h.1, h.2.1, h.2.2.1, h.2.2.2.1, h.2.2.2.2.1, h.2.2.2.2.2.1, h.2.2.2.2.2.2.1, h.2.2.2.2.2.2.2.1, h.2.2.2.2.2.2.2.2.1, h.2.2.2.2.2.2.2.2.2.1, h.2.2.2.2.2.2.2.2.2.2.1, h.2.2.2.2.2.2.2.2.2.2.2.1, h.2.2.2.2.2.2.2.2.2.2.2.2.1, h.2.2.2.2.2.2.2.2.2.2.2.2.2.1, h.2.2.2.2.2.2.2.2.2.2.2.2.2.2.1, h.2.2.2.2.2.2.2.2.2.2.2.2.2.2.2.1, h.2.2.2.2.2.2.2.2.2.2.2.2.2.2.2.2.1, h.2.2.2.2.2.2.2.2.2.2.2.2.2.2.2.2.2.1, h.2.2.2.2.2.2.2.2.2.2.2.2.2.2.2.2.2.2.1, h.2.2.2.2.2.2.2.2.2.2.2.2.2.2.2.2.2.2.2.1, h.2.2.2.2.2.2.2.2.2.2.2.2.2.2.2.2.2.2.2.2.1, h.2.2.2.2.2.2.2.2.2.2.2.2.2.2.2.2.2.2.2.2.2.1, ⟨hx.1.1, hx.1.2.1, hx.1.2.2.1, fun k i hk hi => ?_⟩, hx.2⟩
  show PW rowS (4 + i) (if 25 * k + i = b.toNatClampNeg then gA o 6 b.toNatClampNeg else gA o 9 (25 * k + i))
  split
  · rename_i e; rw [← e]; exact hx.1.2.2.1 k i (by omega) hi
  · exact hx.1.2.2.2 k i hk hi
theorem pw_or {L : List (Nat × Nat × Int × Int)} {a b j m : Nat} {lo hi : Int} {v jj : Int32} (h : PW L j v) (hs : L[m]? = some (a, b, lo, hi)) (e : jj.toInt = (j : Int)) : jj.toInt < (a : Int) ∨ (b : Int) < jj.toInt ∨ (lo ≤ v.toInt ∧ v.toInt ≤ hi) := by
  by_cases h1 : jj.toInt < (a : Int)
  · exact Or.inl h1
  · by_cases h2 : (b : Int) < jj.toInt
    · exact Or.inr (Or.inl h2)
    · exact Or.inr (Or.inr (h (a, b, lo, hi) (List.mem_of_getElem? hs) (by show a ≤ j; omega) (by show j ≤ b; omega)))
theorem spX9_row {o : Ob} {j v : Int32} {n : Nat} (h : IvX9 o) (e : j.toInt = (n : Int)) (hm : j.toInt ≤ 83) (hv : PW rowS n v) : IvX9 (tA o 3 j.toNatClampNeg v) :=
  ibX9_3 h (by omega) hm (pw_or hv (m := 0) rfl e) (pw_or hv (m := 1) rfl e) (pw_or hv (m := 2) rfl e) (pw_or hv (m := 3) rfl e) (pw_or hv (m := 4) rfl e) (pw_or hv (m := 5) rfl e) (pw_or hv (m := 6) rfl e) (pw_or hv (m := 7) rfl e) (pw_or hv (m := 8) rfl e)
theorem spX9_put {o : Ob} {a b : Int32} (h : IvX9 o) (ha : 0 ≤ a.toInt ∧ a.toInt ≤ 17) (hb : 0 ≤ b.toInt ∧ b.toInt ≤ 24) : IvX9 (tA o 3 ((4 : Int32) + b).toNatClampNeg (gA o 6 (((25 : Int32) * a) + b).toNatClampNeg)) := by
  have e1 : ((25 : Int32) * a).toInt = 25 * a.toInt := i32_mul (by decide) rfl (by omega) (by omega)
  have e2 : (((25 : Int32) * a) + b).toInt = 25 * a.toInt + b.toInt := i32_add e1 rfl (by omega) (by omega)
  have e3 : ((4 : Int32) + b).toInt = 4 + b.toInt := i32_add (by decide) rfl (by omega) (by omega)
  have e5 : (((25 : Int32) * a) + b).toNatClampNeg = 25 * a.toInt.toNat + b.toInt.toNat := tnc_eq (by omega)
  refine spX9_row (n := 4 + b.toInt.toNat) h (by omega) (by omega) ?_
  rw [e5]
  have hx := h.2.2.2.2.2.2.2.2.2.2.2.2.2.2.2.2.2.2.2.2.2.2
  exact hx.1.2.2.1 _ _ (by omega) (by omega)
theorem ivX9_of {o o' : Ob} (h : IvX9 o) (hI : ∀ i, gI o' i = gI o i) (hL : gL o' 60 = gL o 60) (hA : ∀ i, i ≠ 3 → i ≠ 4 → gA o' i = gA o i) (s3 : sgd rowS (gA o' 3)) (hx : EX9 (gA o' 3) (gA o' 4) (gA o' 6) (gA o' 9)) : IvX9 o' := ⟨by rw [hI 8]; exact h.1, by rw [hI 13]; exact h.2.1, by rw [hI 14]; exact h.2.2.1, by rw [hI 15]; exact h.2.2.2.1, by rw [hI 16]; exact h.2.2.2.2.1, by rw [hI 19]; exact h.2.2.2.2.2.1, by rw [hI 20]; exact h.2.2.2.2.2.2.1, by rw [hI 21]; exact h.2.2.2.2.2.2.2.1, by rw [hI 23]; exact h.2.2.2.2.2.2.2.2.1, by rw [hI 26]; exact h.2.2.2.2.2.2.2.2.2.1, by rw [hI 29]; exact h.2.2.2.2.2.2.2.2.2.2.1, by rw [hI 38]; exact h.2.2.2.2.2.2.2.2.2.2.2.1, by rw [hI 43]; exact h.2.2.2.2.2.2.2.2.2.2.2.2.1, by rw [hI 59]; exact h.2.2.2.2.2.2.2.2.2.2.2.2.2.1, by rw [hI 62]; exact h.2.2.2.2.2.2.2.2.2.2.2.2.2.2.1, s3, by rw [hA 7 (by decide) (by decide)]; exact h.2.2.2.2.2.2.2.2.2.2.2.2.2.2.2.2.1, by rw [hA 10 (by decide) (by decide)]; exact h.2.2.2.2.2.2.2.2.2.2.2.2.2.2.2.2.2.1, by rw [hA 42 (by decide) (by decide)]; exact h.2.2.2.2.2.2.2.2.2.2.2.2.2.2.2.2.2.2.1, by rw [hA 48 (by decide) (by decide)]; exact h.2.2.2.2.2.2.2.2.2.2.2.2.2.2.2.2.2.2.2.1, by rw [hA 50 (by decide) (by decide)]; exact h.2.2.2.2.2.2.2.2.2.2.2.2.2.2.2.2.2.2.2.2.1, by rw [hA 51 (by decide) (by decide)]; exact h.2.2.2.2.2.2.2.2.2.2.2.2.2.2.2.2.2.2.2.2.2.1, hx, by rw [hL]; exact (h9last h).2⟩
theorem CW_eq {op arg op' arg' : Nat → Int32} {a b : Nat} (e : ∀ k, k < b → op' k = op k ∧ arg' k = arg k) (h : CW op arg a b) : CW op' arg' a b := by
  obtain ⟨t, h0, h1⟩ := h
  refine ⟨t, h0, fun k hk hb => ?_⟩
  have c := h1 k hk hb
  unfold CS at c ⊢
  rw [(e k hb).1, (e k hb).2]
  exact c
theorem WL_eqb {g g' : Nat → Int32} {s : Nat} (e : ∀ j, s ≤ j → j < s + 900 → g' j = g j) (h : WL g s) : WL g' s := by
  have e1 : g' (s + 1) = g (s + 1) := e _ (by omega) (by omega)
  refine ⟨by rw [e1]; exact h.1, fun c hc => ?_⟩
  rw [e1] at hc
  have h12 := h.1.2
  obtain ⟨a, b, d, hab, hbd, hd, q3, q4, q5, q6, w1, w2⟩ := h.2 c hc
  have eq : ∀ i : Nat, i ≤ 8 → g' (s + 2 + 8 * c + i) = g (s + 2 + 8 * c + i) := fun i hi => e _ (by omega) (by omega)
  refine ⟨a, b, d, hab, hbd, hd, ?_, ?_, ?_, ?_, ?_, ?_⟩
  · show (g' (s + 2 + 8 * c + 3)).toInt = _
    rw [eq 3 (by omega)]; exact q3
  · show (g' (s + 2 + 8 * c + 4)).toInt = _
    rw [eq 4 (by omega)]; exact q4
  · show (g' (s + 2 + 8 * c + 5)).toInt = _
    rw [eq 5 (by omega)]; exact q5
  · show (g' (s + 2 + 8 * c + 6)).toInt = _
    rw [eq 6 (by omega)]; exact q6
  · exact CW_eq (fun k hk => ⟨e _ (by omega) (by omega), e _ (by omega) (by omega)⟩) w1
  · exact CW_eq (fun k hk => ⟨e _ (by omega) (by omega), e _ (by omega) (by omega)⟩) w2
theorem rowS_lt : ∀ s ∈ rowS, s.2.1 < 84 := by decide
theorem EX9.img {row img img' und unb : Nat → Int32} {k : Nat} (h : EX9 row img und unb) (hr : sgd rowS row) (e1 : ∀ i, i < 5484 → img' (5484 * k + i) = row i) (e2 : ∀ j, j < 5484 * k ∨ 5484 * k + 5484 ≤ j → img' j = img j) : EX9 row img' und unb := by
  refine ⟨h.1, fun m hm => ?_, h.2.2⟩
  by_cases e : m = k
  · subst e
    refine ⟨fun l hl => WL_eqb (fun j hj hj2 => e1 j (by omega)) (h.1 l hl), fun j hj => ?_⟩
    rw [e1 j (by omega)]; exact sgd_pw.mp hr j
  · have h2 := h.2.1 m hm
    refine ⟨fun l hl => WL_eqb (fun j hj hj2 => e2 _ (by omega)) (h2.1 l hl), fun j hj => ?_⟩
    rw [e2 _ (by omega)]; exact h2.2 j hj
theorem EX9.bck {row row' img und unb : Nat → Int32} {k : Nat} (hk : k < 2) (h : EX9 row img und unb) (e1 : ∀ i, i < 5484 → row' i = img (5484 * k + i)) : EX9 row' img und unb ∧ sgd rowS row' := by
  have h2 := h.2.1 k hk
  refine ⟨⟨fun l hl => WL_eqb (g := fun i => img (5484 * k + i)) (fun j hj hj2 => e1 j (by omega)) (h2.1 l hl), h.2⟩, sgd_pw.mpr (fun j s hs g1 g2 => ?_)⟩
  have h3 := rowS_lt s hs
  rw [e1 j (by omega)]
  exact h2.2 j (by omega) s hs g1 g2
theorem zmq_u {a n b u c : Int} (e : a = n * b) (h : b ≤ u) (h0 : 0 ≤ n) (e2 : n * u = c) : a ≤ c := by rw [e, ← e2]; exact Int.mul_le_mul_of_nonneg_left h h0
theorem zmq_l {a n b u c : Int} (e : a = n * b) (h : u ≤ b) (h0 : 0 ≤ n) (e2 : n * u = c) : c ≤ a := by rw [e, ← e2]; exact Int.mul_le_mul_of_nonneg_left h h0
theorem zrq_u {a n b u c : Int} (e : a = b * n) (h : b ≤ u) (h0 : 0 ≤ n) (e2 : u * n = c) : a ≤ c := by rw [e, ← e2]; exact Int.mul_le_mul_of_nonneg_right h h0
theorem zrq_l {a n b u c : Int} (e : a = b * n) (h : u ≤ b) (h0 : 0 ≤ n) (e2 : u * n = c) : c ≤ a := by rw [e, ← e2]; exact Int.mul_le_mul_of_nonneg_right h h0
theorem zaq_u {a x y u v c : Int} (e : a = x + y) (h : x ≤ u) (h2 : y ≤ v) (e2 : u + v = c) : a ≤ c := by omega
theorem zaq_l {a x y u v c : Int} (e : a = x + y) (h : u ≤ x) (h2 : v ≤ y) (e2 : u + v = c) : c ≤ a := by omega
theorem zsq_u {a x y u v c : Int} (e : a = x - y) (h : x ≤ u) (h2 : v ≤ y) (e2 : u - v = c) : a ≤ c := by omega
theorem zsq_l {a x y u v c : Int} (e : a = x - y) (h : u ≤ x) (h2 : y ≤ v) (e2 : u - v = c) : c ≤ a := by omega
theorem zaqc_u {a n y u c : Int} (e : a = n + y) (h : y ≤ u) (e2 : n + u = c) : a ≤ c := by omega
theorem zaqc_l {a n y u c : Int} (e : a = n + y) (h : u ≤ y) (e2 : n + u = c) : c ≤ a := by omega
theorem zsqc_u {a n y u c : Int} (e : a = n - y) (h : u ≤ y) (e2 : n - u = c) : a ≤ c := by omega
theorem zsqc_l {a n y u c : Int} (e : a = n - y) (h : y ≤ u) (e2 : n - u = c) : c ≤ a := by omega
theorem zne_l {a b k l : Int} (h : a ≤ k) (h2 : l ≤ b) (e : k < l) : a ≠ b := by omega
theorem zne_r {a b k l : Int} (h : b ≤ k) (h2 : l ≤ a) (e : k < l) : a ≠ b := by omega
theorem zk_cl {b k n m : Int} (h : m ≤ b) (e : k ≤ n + m) : k ≤ n + b := by omega
theorem zk_cu {b k n m : Int} (h : b ≤ m) (e : n + m ≤ k) : n + b ≤ k := by omega
theorem zq_0 {a b : Int} (h : a = b) : a ≤ b + 0 := by omega
theorem zq_r {a b n c : Int} (h : a = b + n) (e : -n = c) : b ≤ a + c := by omega
theorem zl_0 {a b : Int} (h : a ≤ b) : a ≤ b + 0 := by omega
theorem zl_d {a b : Int} (h : a < b) : a ≤ b + (-1) := by omega
theorem zl_m {a b n c : Int} (h : a + n ≤ b) (e : -n = c) : a ≤ b + c := by omega
theorem zd_e {a b d c1 c2 c : Int} (h1 : a ≤ b + c1) (h2 : b ≤ d + c2) (e : c1 + c2 ≤ c) : a ≤ d + c := by omega
theorem zd_w {a b c c2 : Int} (h : a ≤ b + c2) (e : c2 ≤ c) : a ≤ b + c := by omega
theorem zd_b {a b k l c : Int} (h : a ≤ k) (h2 : l ≤ b) (e : k - l ≤ c) : a ≤ b + c := by omega
theorem zu_e {a b c k2 k : Int} (h : a ≤ b + c) (h2 : b ≤ k2) (e : c + k2 ≤ k) : a ≤ k := by omega
theorem zl_e {a b c k2 k : Int} (h : b ≤ a + c) (h2 : k2 ≤ b) (e : k ≤ k2 - c) : k ≤ a := by omega
theorem zn_u {a k c : Int} (h : a ≤ k) (h2 : a ≠ k) (e : k - 1 = c) : a ≤ c := by omega
theorem zn_l {a k c : Int} (h : k ≤ a) (h2 : a ≠ k) (e : k + 1 = c) : c ≤ a := by omega
theorem zq_s {a b n c : Int} (h : a = b - n) (e : -n = c) : a ≤ b + c := by omega
theorem zq_t {a b n c : Int} (h : a = b - n) (e : n = c) : b ≤ a + c := by omega
theorem zlt_u {a k c : Int} (h : a < k) (e : k - 1 = c) : a ≤ c := by omega
theorem zlt_l {a k c : Int} (h : k < a) (e : k + 1 = c) : c ≤ a := by omega
theorem zlt_m {a k c : Int} (h : a ≤ c) (e : c < k) : a < k := by omega
theorem zlt_k {a k c : Int} (h : c ≤ a) (e : k < c) : k < a := by omega
theorem zd_r {a c : Int} (e : 0 ≤ c) : a ≤ a + c := by omega
theorem zms_u {t t2 hi c : Int} {N : Nat} (hN : (hi - t).toNat < N + 1) (h1 : t ≤ t2 + (-1)) (h2 : t ≤ c) (e : c < hi) : (hi - t2).toNat < N := by omega
theorem zms_d {t t2 lo c : Int} {N : Nat} (hN : (t - lo).toNat < N + 1) (h1 : t2 ≤ t + (-1)) (h2 : c ≤ t) (e : lo < c) : (t2 - lo).toNat < N := by omega
theorem zms_2 {t t2 u u2 : Int} {N : Nat} (hN : (u - t).toNat < N + 1) (h1 : t ≤ t2 + (-1)) (h2 : u2 ≤ u + 0) (h3 : t ≤ u + (-1)) : (u2 - t2).toNat < N := by omega
theorem zme_u {t hi l : Int} (h : l ≤ t) (e : hi - l < 100000) : (hi - t).toNat < zfu := by
  show _ < 100000
  omega
theorem zme_d {t lo u : Int} (h : t ≤ u) (e : u - lo < 100000) : (t - lo).toNat < zfu := by
  show _ < 100000
  omega
theorem zme_2 {t1 t2 u l : Int} (h : t2 ≤ u) (h2 : l ≤ t1) (e : u - l < 100000) : (t2 - t1).toNat < zfu := by
  show _ < 100000
  omega
theorem zz_0 {a b : Int} (h : a ≤ b + 0) : a ≤ b := by omega
theorem zz_l {a b : Int} (h : a ≤ b + (-1)) : a < b := by omega
theorem zk_l {a k n l : Int} (h : l ≤ a) (e : k ≤ l + n) : k ≤ a + n := by omega
theorem zk_u {a k n u : Int} (h : a ≤ u) (e : u + n ≤ k) : a + n ≤ k := by omega
theorem zk_ll {a b k l m : Int} (h : l ≤ a) (h2 : m ≤ b) (e : k ≤ l + m) : k ≤ a + b := by omega
theorem zk_uu {a b k l m : Int} (h : a ≤ l) (h2 : b ≤ m) (e : l + m ≤ k) : a + b ≤ k := by omega
theorem zs_l {a k n l : Int} (h : l ≤ a) (e : k ≤ l - n) : k ≤ a - n := by omega
theorem zs_u {a k n u : Int} (h : a ≤ u) (e : u - n ≤ k) : a - n ≤ k := by omega
theorem zs_ll {a b k l m : Int} (h : l ≤ a) (h2 : b ≤ m) (e : k ≤ l - m) : k ≤ a - b := by omega
theorem zs_uu {a b k l m : Int} (h : a ≤ l) (h2 : m ≤ b) (e : l - m ≤ k) : a - b ≤ k := by omega
theorem zs_cl {b k n m : Int} (h2 : b ≤ m) (e : k ≤ n - m) : k ≤ n - b := by omega
theorem zs_cu {b k n m : Int} (h2 : m ≤ b) (e : n - m ≤ k) : n - b ≤ k := by omega
theorem zm_l {a k n l : Int} (h : l ≤ a) (h0 : 0 ≤ n) (e : k ≤ n * l) : k ≤ n * a := Int.le_trans e (Int.mul_le_mul_of_nonneg_left h h0)
theorem zm_u {a k n l : Int} (h : a ≤ l) (h0 : 0 ≤ n) (e : n * l ≤ k) : n * a ≤ k := Int.le_trans (Int.mul_le_mul_of_nonneg_left h h0) e
theorem zr_l {a k n l : Int} (h : l ≤ a) (h0 : 0 ≤ n) (e : k ≤ l * n) : k ≤ a * n := Int.le_trans e (Int.mul_le_mul_of_nonneg_right h h0)
theorem zr_u {a k n l : Int} (h : a ≤ l) (h0 : 0 ≤ n) (e : l * n ≤ k) : a * n ≤ k := Int.le_trans (Int.mul_le_mul_of_nonneg_right h h0) e
theorem tzm1 : (-1 : Int32).toInt = (-1) := by decide
theorem tz0 : (0 : Int32).toInt = 0 := by decide
theorem tl0 : (0 : Int64).toInt = 0 := by decide
theorem tz1 : (1 : Int32).toInt = 1 := by decide
theorem tl1 : (1 : Int64).toInt = 1 := by decide
theorem tz4 : (4 : Int32).toInt = 4 := by decide
theorem tl4 : (4 : Int64).toInt = 4 := by decide
theorem tl7 : (7 : Int64).toInt = 7 := by decide
theorem tz9 : (9 : Int32).toInt = 9 := by decide
theorem tl9 : (9 : Int64).toInt = 9 := by decide
theorem tl14 : (14 : Int64).toInt = 14 := by decide
theorem tl16 : (16 : Int64).toInt = 16 := by decide
theorem tl20 : (20 : Int64).toInt = 20 := by decide
theorem tz24 : (24 : Int32).toInt = 24 := by decide
theorem tl60 : (60 : Int64).toInt = 60 := by decide
theorem tz99 : (99 : Int32).toInt = 99 := by decide
theorem tl99 : (99 : Int64).toInt = 99 := by decide
theorem tz999 : (999 : Int32).toInt = 999 := by decide
theorem tl1000000 : (1000000 : Int64).toInt = 1000000 := by decide
