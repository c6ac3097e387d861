/-! the heap at its known keys (printed by wip/whole/gen_inst.py) -/
section INST
variable {A G : Mat} {e : Ev} {ro : RO}
theorem vo0 {K : PR} : vO (HH A G e) (some (.ref 0)) 0 K = K := vO_H rfl
theorem rf0_0 {N : PR} {K : Nat → PR} : gR (HH A G e) 0 0 0 N K = K 20020 := gR_H rfl (by decide) rfl
theorem gf0_1 {K : Int32 → PR} : gI (HH A G e) 0 0 1 K = K (G 0 0 1) := gI_H rfl (by decide) rfl
theorem pf0_1 {v : Int32} {K : PH → PR} : pF (HH A G e) 0 0 1 (.int v) K = K (HH A (up3 G 0 0 1 v) e) := pF_H rfl (by decide) rfl
theorem vo1000 {K : PR} : vO (HH A G e) (some (.ref 1000)) 1 K = K := vO_H rfl
theorem rf1000_0 {N : PR} {K : Nat → PR} : gR (HH A G e) 1000 1 0 N K = K 20004 := gR_H rfl (by decide) rfl
theorem rf1000_1 {N : PR} {K : Nat → PR} : gR (HH A G e) 1000 1 1 N K = K 20005 := gR_H rfl (by decide) rfl
theorem vo2000 {K : PR} : vO (HH A G e) (some (.ref 2000)) 2 K = K := vO_H rfl
theorem rf2000_0 {N : PR} {K : Nat → PR} : gR (HH A G e) 2000 2 0 N K = K 20000 := gR_H rfl (by decide) rfl
theorem rf2000_1 {N : PR} {K : Nat → PR} : gR (HH A G e) 2000 2 1 N K = K 20001 := gR_H rfl (by decide) rfl
theorem rf2000_2 {N : PR} {K : Nat → PR} : gR (HH A G e) 2000 2 2 N K = K 20002 := gR_H rfl (by decide) rfl
theorem rf2000_3 {N : PR} {K : Nat → PR} : gR (HH A G e) 2000 2 3 N K = K 20003 := gR_H rfl (by decide) rfl
theorem vo5000 {K : PR} : vO (HH A G e) (some (.ref 5000)) 5 K = K := vO_H rfl
theorem rf5000_0 {N : PR} {K : Nat → PR} : gR (HH A G e) 5000 5 0 N K = K 20018 := gR_H rfl (by decide) rfl
theorem rf5000_1 {N : PR} {K : Nat → PR} : gR (HH A G e) 5000 5 1 N K = K 20019 := gR_H rfl (by decide) rfl
theorem gf5000_2 {K : Int32 → PR} : gI (HH A G e) 5000 5 2 K = K (G 5 0 2) := gI_H rfl (by decide) rfl
theorem pf5000_2 {v : Int32} {K : PH → PR} : pF (HH A G e) 5000 5 2 (.int v) K = K (HH A (up3 G 5 0 2 v) e) := pF_H rfl (by decide) rfl
theorem vo6000 {K : PR} : vO (HH A G e) (some (.ref 6000)) 6 K = K := vO_H rfl
theorem rf6000_0 {N : PR} {K : Nat → PR} : gR (HH A G e) 6000 6 0 N K = K 20015 := gR_H rfl (by decide) rfl
theorem rf6000_1 {N : PR} {K : Nat → PR} : gR (HH A G e) 6000 6 1 N K = K (eT e) := gR_H rfl (by decide) rfl
theorem gf6000_2 {K : Int32 → PR} : gI (HH A G e) 6000 6 2 K = K (G 6 0 2) := gI_H rfl (by decide) rfl
theorem pf6000_2 {v : Int32} {K : PH → PR} : pF (HH A G e) 6000 6 2 (.int v) K = K (HH A (up3 G 6 0 2 v) e) := pF_H rfl (by decide) rfl
theorem gf6000_3 {K : Int32 → PR} : gI (HH A G e) 6000 6 3 K = K (G 6 0 3) := gI_H rfl (by decide) rfl
theorem pf6000_3 {v : Int32} {K : PH → PR} : pF (HH A G e) 6000 6 3 (.int v) K = K (HH A (up3 G 6 0 3 v) e) := pF_H rfl (by decide) rfl
theorem gf6000_4 {K : Int32 → PR} : gI (HH A G e) 6000 6 4 K = K (G 6 0 4) := gI_H rfl (by decide) rfl
theorem pf6000_4 {v : Int32} {K : PH → PR} : pF (HH A G e) 6000 6 4 (.int v) K = K (HH A (up3 G 6 0 4 v) e) := pF_H rfl (by decide) rfl
theorem vo9000 {K : PR} : vO (HH A G e) (some (.ref 9000)) 9 K = K := vO_H rfl
theorem rf9000_0 {N : PR} {K : Nat → PR} : gR (HH A G e) 9000 9 0 N K = K 2000 := gR_H rfl (by decide) rfl
theorem rf9000_1 {N : PR} {K : Nat → PR} : gR (HH A G e) 9000 9 1 N K = K (eW e) := gR_H rfl (by decide) rfl
theorem gf9000_2 {K : Int32 → PR} : gI (HH A G e) 9000 9 2 K = K (G 9 0 2) := gI_H rfl (by decide) rfl
theorem pf9000_2 {v : Int32} {K : PH → PR} : pF (HH A G e) 9000 9 2 (.int v) K = K (HH A (up3 G 9 0 2 v) e) := pF_H rfl (by decide) rfl
theorem rf9000_3 {N : PR} {K : Nat → PR} : gR (HH A G e) 9000 9 3 N K = K 20009 := gR_H rfl (by decide) rfl
theorem rf9000_4 {N : PR} {K : Nat → PR} : gR (HH A G e) 9000 9 4 N K = K 20010 := gR_H rfl (by decide) rfl
theorem vo10000 {K : PR} : vO (HH A G e) (some (.ref 10000)) 10 K = K := vO_H rfl
theorem rf10000_0 {N : PR} {K : Nat → PR} : gR (HH A G e) 10000 10 0 N K = K 2000 := gR_H rfl (by decide) rfl
theorem rf10000_1 {N : PR} {K : Nat → PR} : gR (HH A G e) 10000 10 1 N K = K 1000 := gR_H rfl (by decide) rfl
theorem rf10000_2 {N : PR} {K : Nat → PR} : gR (HH A G e) 10000 10 2 N K = K 20006 := gR_H rfl (by decide) rfl
theorem rf10000_3 {N : PR} {K : Nat → PR} : gR (HH A G e) 10000 10 3 N K = K 9000 := gR_H rfl (by decide) rfl
theorem rf10000_4 {N : PR} {K : Nat → PR} : gR (HH A G e) 10000 10 4 N K = K 20011 := gR_H rfl (by decide) rfl
theorem rf10000_5 {N : PR} {K : Nat → PR} : gR (HH A G e) 10000 10 5 N K = K 20012 := gR_H rfl (by decide) rfl
theorem rf10000_6 {N : PR} {K : Nat → PR} : gR (HH A G e) 10000 10 6 N K = K 20013 := gR_H rfl (by decide) rfl
theorem rf10000_7 {N : PR} {K : Nat → PR} : gR (HH A G e) 10000 10 7 N K = K 20014 := gR_H rfl (by decide) rfl
theorem rf10000_8 {N : PR} {K : Nat → PR} : gR (HH A G e) 10000 10 8 N K = K 6000 := gR_H rfl (by decide) rfl
theorem rf10000_9 {N : PR} {K : Nat → PR} : gR (HH A G e) 10000 10 9 N K = K 20017 := gR_H rfl (by decide) rfl
theorem rf10000_10 {N : PR} {K : Nat → PR} : gR (HH A G e) 10000 10 10 N K = K 5000 := gR_H rfl (by decide) rfl
theorem rf10000_11 {N : PR} {K : Nat → PR} : gR (HH A G e) 10000 10 11 N K = K 0 := gR_H rfl (by decide) rfl
theorem rf10000_12 {N : PR} {K : Nat → PR} : gR (HH A G e) 10000 10 12 N K = K 20021 := gR_H rfl (by decide) rfl
theorem gf10000_13 {K : Int32 → PR} : gI (HH A G e) 10000 10 13 K = K (G 10 0 13) := gI_H rfl (by decide) rfl
theorem pf10000_13 {v : Int32} {K : PH → PR} : pF (HH A G e) 10000 10 13 (.int v) K = K (HH A (up3 G 10 0 13 v) e) := pF_H rfl (by decide) rfl
theorem gf10000_14 {K : Int32 → PR} : gI (HH A G e) 10000 10 14 K = K (G 10 0 14) := gI_H rfl (by decide) rfl
theorem pf10000_14 {v : Int32} {K : PH → PR} : pF (HH A G e) 10000 10 14 (.int v) K = K (HH A (up3 G 10 0 14 v) e) := pF_H rfl (by decide) rfl
theorem gf10000_15 {K : Int32 → PR} : gI (HH A G e) 10000 10 15 K = K (G 10 0 15) := gI_H rfl (by decide) rfl
theorem pf10000_15 {v : Int32} {K : PH → PR} : pF (HH A G e) 10000 10 15 (.int v) K = K (HH A (up3 G 10 0 15 v) e) := pF_H rfl (by decide) rfl
theorem gf10000_16 {K : Int32 → PR} : gI (HH A G e) 10000 10 16 K = K (G 10 0 16) := gI_H rfl (by decide) rfl
theorem pf10000_16 {v : Int32} {K : PH → PR} : pF (HH A G e) 10000 10 16 (.int v) K = K (HH A (up3 G 10 0 16 v) e) := pF_H rfl (by decide) rfl
theorem gf10000_17 {K : Int32 → PR} : gI (HH A G e) 10000 10 17 K = K (G 10 0 17) := gI_H rfl (by decide) rfl
theorem pf10000_17 {v : Int32} {K : PH → PR} : pF (HH A G e) 10000 10 17 (.int v) K = K (HH A (up3 G 10 0 17 v) e) := pF_H rfl (by decide) rfl
theorem vo11000 {K : PR} : vO (HH A G e) (some (.ref 11000)) 11 K = K := vO_H rfl
theorem gf11000_0 {K : Int32 → PR} : gI (HH A G e) 11000 11 0 K = K (G 11 0 0) := gI_H rfl (by decide) rfl
theorem pf11000_0 {v : Int32} {K : PH → PR} : pF (HH A G e) 11000 11 0 (.int v) K = K (HH A (up3 G 11 0 0 v) e) := pF_H rfl (by decide) rfl
theorem gf11000_1 {K : Int32 → PR} : gI (HH A G e) 11000 11 1 K = K (G 11 0 1) := gI_H rfl (by decide) rfl
theorem pf11000_1 {v : Int32} {K : PH → PR} : pF (HH A G e) 11000 11 1 (.int v) K = K (HH A (up3 G 11 0 1 v) e) := pF_H rfl (by decide) rfl
theorem rf11000_2 {N : PR} {K : Nat → PR} : gR (HH A G e) 11000 11 2 N K = K 20028 := gR_H rfl (by decide) rfl
theorem rf11000_3 {N : PR} {K : Nat → PR} : gR (HH A G e) 11000 11 3 N K = K 20029 := gR_H rfl (by decide) rfl
theorem rf11000_4 {N : PR} {K : Nat → PR} : gR (HH A G e) 11000 11 4 N K = K 20030 := gR_H rfl (by decide) rfl
theorem rf11000_5 {N : PR} {K : Nat → PR} : gR (HH A G e) 11000 11 5 N K = K 20031 := gR_H rfl (by decide) rfl
theorem rf11000_6 {N : PR} {K : Nat → PR} : gR (HH A G e) 11000 11 6 N K = K 20032 := gR_H rfl (by decide) rfl
theorem rf11000_7 {N : PR} {K : Nat → PR} : gR (HH A G e) 11000 11 7 N K = K 20033 := gR_H rfl (by decide) rfl
theorem rf11000_8 {N : PR} {K : Nat → PR} : gR (HH A G e) 11000 11 8 N K = K 20034 := gR_H rfl (by decide) rfl
theorem rf11000_9 {N : PR} {K : Nat → PR} : gR (HH A G e) 11000 11 9 N K = K 20035 := gR_H rfl (by decide) rfl
theorem rf11000_10 {N : PR} {K : Nat → PR} : gR (HH A G e) 11000 11 10 N K = K 20036 := gR_H rfl (by decide) rfl
theorem rf11000_11 {N : PR} {K : Nat → PR} : gR (HH A G e) 11000 11 11 N K = K 20037 := gR_H rfl (by decide) rfl
theorem rf11000_12 {N : PR} {K : Nat → PR} : gR (HH A G e) 11000 11 12 N K = K 20038 := gR_H rfl (by decide) rfl
theorem rf11000_13 {N : PR} {K : Nat → PR} : gR (HH A G e) 11000 11 13 N K = K 20039 := gR_H rfl (by decide) rfl
theorem rf11000_14 {N : PR} {K : Nat → PR} : gR (HH A G e) 11000 11 14 N K = K 20040 := gR_H rfl (by decide) rfl
theorem rf11000_15 {N : PR} {K : Nat → PR} : gR (HH A G e) 11000 11 15 N K = K 20041 := gR_H rfl (by decide) rfl
theorem rf11000_16 {N : PR} {K : Nat → PR} : gR (HH A G e) 11000 11 16 N K = K 20042 := gR_H rfl (by decide) rfl
theorem rf11000_17 {N : PR} {K : Nat → PR} : gR (HH A G e) 11000 11 17 N K = K 20043 := gR_H rfl (by decide) rfl
theorem gf11000_18 {K : Int32 → PR} : gI (HH A G e) 11000 11 18 K = K (G 11 0 18) := gI_H rfl (by decide) rfl
theorem pf11000_18 {v : Int32} {K : PH → PR} : pF (HH A G e) 11000 11 18 (.int v) K = K (HH A (up3 G 11 0 18 v) e) := pF_H rfl (by decide) rfl
theorem rf11000_19 {N : PR} {K : Nat → PR} : gR (HH A G e) 11000 11 19 N K = K 20044 := gR_H rfl (by decide) rfl
theorem rf11000_20 {N : PR} {K : Nat → PR} : gR (HH A G e) 11000 11 20 N K = K 20045 := gR_H rfl (by decide) rfl
theorem rf11000_21 {N : PR} {K : Nat → PR} : gR (HH A G e) 11000 11 21 N K = K 20046 := gR_H rfl (by decide) rfl
theorem rf11000_22 {N : PR} {K : Nat → PR} : gR (HH A G e) 11000 11 22 N K = K 20047 := gR_H rfl (by decide) rfl
theorem rf11000_23 {N : PR} {K : Nat → PR} : gR (HH A G e) 11000 11 23 N K = K 20048 := gR_H rfl (by decide) rfl
theorem rf11000_24 {N : PR} {K : Nat → PR} : gR (HH A G e) 11000 11 24 N K = K 20049 := gR_H rfl (by decide) rfl
theorem rf11000_25 {N : PR} {K : Nat → PR} : gR (HH A G e) 11000 11 25 N K = K 20050 := gR_H rfl (by decide) rfl
theorem rf11000_26 {N : PR} {K : Nat → PR} : gR (HH A G e) 11000 11 26 N K = K 20051 := gR_H rfl (by decide) rfl
theorem rf11000_27 {N : PR} {K : Nat → PR} : gR (HH A G e) 11000 11 27 N K = K 20052 := gR_H rfl (by decide) rfl
theorem rf11000_28 {N : PR} {K : Nat → PR} : gR (HH A G e) 11000 11 28 N K = K 20053 := gR_H rfl (by decide) rfl
theorem gf11000_29 {K : Int32 → PR} : gI (HH A G e) 11000 11 29 K = K (G 11 0 29) := gI_H rfl (by decide) rfl
theorem pf11000_29 {v : Int32} {K : PH → PR} : pF (HH A G e) 11000 11 29 (.int v) K = K (HH A (up3 G 11 0 29 v) e) := pF_H rfl (by decide) rfl
theorem gf11000_30 {K : Int32 → PR} : gI (HH A G e) 11000 11 30 K = K (G 11 0 30) := gI_H rfl (by decide) rfl
theorem pf11000_30 {v : Int32} {K : PH → PR} : pF (HH A G e) 11000 11 30 (.int v) K = K (HH A (up3 G 11 0 30 v) e) := pF_H rfl (by decide) rfl
theorem gf11000_31 {K : Int32 → PR} : gI (HH A G e) 11000 11 31 K = K (G 11 0 31) := gI_H rfl (by decide) rfl
theorem pf11000_31 {v : Int32} {K : PH → PR} : pF (HH A G e) 11000 11 31 (.int v) K = K (HH A (up3 G 11 0 31 v) e) := pF_H rfl (by decide) rfl
theorem gf11000_32 {K : Int32 → PR} : gI (HH A G e) 11000 11 32 K = K (G 11 0 32) := gI_H rfl (by decide) rfl
theorem pf11000_32 {v : Int32} {K : PH → PR} : pF (HH A G e) 11000 11 32 (.int v) K = K (HH A (up3 G 11 0 32 v) e) := pF_H rfl (by decide) rfl
theorem rf11000_33 {N : PR} {K : Nat → PR} : gR (HH A G e) 11000 11 33 N K = K 20054 := gR_H rfl (by decide) rfl
theorem gf11000_34 {K : Int32 → PR} : gI (HH A G e) 11000 11 34 K = K (G 11 0 34) := gI_H rfl (by decide) rfl
theorem pf11000_34 {v : Int32} {K : PH → PR} : pF (HH A G e) 11000 11 34 (.int v) K = K (HH A (up3 G 11 0 34 v) e) := pF_H rfl (by decide) rfl
theorem gf11000_35 {K : Int32 → PR} : gI (HH A G e) 11000 11 35 K = K (G 11 0 35) := gI_H rfl (by decide) rfl
theorem pf11000_35 {v : Int32} {K : PH → PR} : pF (HH A G e) 11000 11 35 (.int v) K = K (HH A (up3 G 11 0 35 v) e) := pF_H rfl (by decide) rfl
theorem gf11000_36 {K : Int32 → PR} : gI (HH A G e) 11000 11 36 K = K (G 11 0 36) := gI_H rfl (by decide) rfl
theorem pf11000_36 {v : Int32} {K : PH → PR} : pF (HH A G e) 11000 11 36 (.int v) K = K (HH A (up3 G 11 0 36 v) e) := pF_H rfl (by decide) rfl
theorem rf11000_37 {N : PR} {K : Nat → PR} : gR (HH A G e) 11000 11 37 N K = K 20055 := gR_H rfl (by decide) rfl
theorem rf11000_38 {N : PR} {K : Nat → PR} : gR (HH A G e) 11000 11 38 N K = K 20056 := gR_H rfl (by decide) rfl
theorem rf11000_39 {N : PR} {K : Nat → PR} : gR (HH A G e) 11000 11 39 N K = K 20057 := gR_H rfl (by decide) rfl
theorem rf11000_40 {N : PR} {K : Nat → PR} : gR (HH A G e) 11000 11 40 N K = K 20058 := gR_H rfl (by decide) rfl
theorem rf11000_41 {N : PR} {K : Nat → PR} : gR (HH A G e) 11000 11 41 N K = K 20059 := gR_H rfl (by decide) rfl
theorem gf11000_42 {K : Int32 → PR} : gI (HH A G e) 11000 11 42 K = K (G 11 0 42) := gI_H rfl (by decide) rfl
theorem pf11000_42 {v : Int32} {K : PH → PR} : pF (HH A G e) 11000 11 42 (.int v) K = K (HH A (up3 G 11 0 42 v) e) := pF_H rfl (by decide) rfl
theorem gf11000_43 {K : Int32 → PR} : gI (HH A G e) 11000 11 43 K = K (G 11 0 43) := gI_H rfl (by decide) rfl
theorem pf11000_43 {v : Int32} {K : PH → PR} : pF (HH A G e) 11000 11 43 (.int v) K = K (HH A (up3 G 11 0 43 v) e) := pF_H rfl (by decide) rfl
theorem gf11000_44 {K : Int32 → PR} : gI (HH A G e) 11000 11 44 K = K (G 11 0 44) := gI_H rfl (by decide) rfl
theorem pf11000_44 {v : Int32} {K : PH → PR} : pF (HH A G e) 11000 11 44 (.int v) K = K (HH A (up3 G 11 0 44 v) e) := pF_H rfl (by decide) rfl
theorem rf11000_45 {N : PR} {K : Nat → PR} : gR (HH A G e) 11000 11 45 N K = K 20060 := gR_H rfl (by decide) rfl
theorem rf11000_46 {N : PR} {K : Nat → PR} : gR (HH A G e) 11000 11 46 N K = K 20061 := gR_H rfl (by decide) rfl
theorem gf11000_47 {K : Int32 → PR} : gI (HH A G e) 11000 11 47 K = K (G 11 0 47) := gI_H rfl (by decide) rfl
theorem pf11000_47 {v : Int32} {K : PH → PR} : pF (HH A G e) 11000 11 47 (.int v) K = K (HH A (up3 G 11 0 47 v) e) := pF_H rfl (by decide) rfl
theorem gf11000_48 {K : Int32 → PR} : gI (HH A G e) 11000 11 48 K = K (G 11 0 48) := gI_H rfl (by decide) rfl
theorem pf11000_48 {v : Int32} {K : PH → PR} : pF (HH A G e) 11000 11 48 (.int v) K = K (HH A (up3 G 11 0 48 v) e) := pF_H rfl (by decide) rfl
theorem gf11000_49 {K : Int32 → PR} : gI (HH A G e) 11000 11 49 K = K (G 11 0 49) := gI_H rfl (by decide) rfl
theorem pf11000_49 {v : Int32} {K : PH → PR} : pF (HH A G e) 11000 11 49 (.int v) K = K (HH A (up3 G 11 0 49 v) e) := pF_H rfl (by decide) rfl
theorem gf11000_50 {K : Int32 → PR} : gI (HH A G e) 11000 11 50 K = K (G 11 0 50) := gI_H rfl (by decide) rfl
theorem pf11000_50 {v : Int32} {K : PH → PR} : pF (HH A G e) 11000 11 50 (.int v) K = K (HH A (up3 G 11 0 50 v) e) := pF_H rfl (by decide) rfl
theorem rf11000_51 {N : PR} {K : Nat → PR} : gR (HH A G e) 11000 11 51 N K = K 20062 := gR_H rfl (by decide) rfl
theorem rf11000_52 {N : PR} {K : Nat → PR} : gR (HH A G e) 11000 11 52 N K = K 20063 := gR_H rfl (by decide) rfl
theorem gf11000_53 {K : Int32 → PR} : gI (HH A G e) 11000 11 53 K = K (G 11 0 53) := gI_H rfl (by decide) rfl
theorem pf11000_53 {v : Int32} {K : PH → PR} : pF (HH A G e) 11000 11 53 (.int v) K = K (HH A (up3 G 11 0 53 v) e) := pF_H rfl (by decide) rfl
theorem rf11000_54 {N : PR} {K : Nat → PR} : gR (HH A G e) 11000 11 54 N K = K 20064 := gR_H rfl (by decide) rfl
theorem rf11000_55 {N : PR} {K : Nat → PR} : gR (HH A G e) 11000 11 55 N K = K 20065 := gR_H rfl (by decide) rfl
theorem rf11000_56 {N : PR} {K : Nat → PR} : gR (HH A G e) 11000 11 56 N K = K 20066 := gR_H rfl (by decide) rfl
theorem rf11000_57 {N : PR} {K : Nat → PR} : gR (HH A G e) 11000 11 57 N K = K 20067 := gR_H rfl (by decide) rfl
theorem rf11000_58 {N : PR} {K : Nat → PR} : gR (HH A G e) 11000 11 58 N K = K 20068 := gR_H rfl (by decide) rfl
theorem vo4000 {K : PR} : vO (HH A G e) (some (.ref 4000)) 4 K = K := vO_H rfl
theorem gf4000_0 {K : Int32 → PR} : gI (HH A G e) 4000 4 0 K = K (G 4 0 0) := gI_H rfl (by decide) rfl
theorem pf4000_0 {v : Int32} {K : PH → PR} : pF (HH A G e) 4000 4 0 (.int v) K = K (HH A (up3 G 4 0 0 v) e) := pF_H rfl (by decide) rfl
theorem gf4000_1 {K : Int32 → PR} : gI (HH A G e) 4000 4 1 K = K (G 4 0 1) := gI_H rfl (by decide) rfl
theorem pf4000_1 {v : Int32} {K : PH → PR} : pF (HH A G e) 4000 4 1 (.int v) K = K (HH A (up3 G 4 0 1 v) e) := pF_H rfl (by decide) rfl
theorem gf4000_2 {K : Int32 → PR} : gI (HH A G e) 4000 4 2 K = K (G 4 0 2) := gI_H rfl (by decide) rfl
theorem pf4000_2 {v : Int32} {K : PH → PR} : pF (HH A G e) 4000 4 2 (.int v) K = K (HH A (up3 G 4 0 2 v) e) := pF_H rfl (by decide) rfl
theorem gf4000_3 {K : Int32 → PR} : gI (HH A G e) 4000 4 3 K = K (G 4 0 3) := gI_H rfl (by decide) rfl
theorem pf4000_3 {v : Int32} {K : PH → PR} : pF (HH A G e) 4000 4 3 (.int v) K = K (HH A (up3 G 4 0 3 v) e) := pF_H rfl (by decide) rfl
theorem gf4000_4 {K : Int32 → PR} : gI (HH A G e) 4000 4 4 K = K (G 4 0 4) := gI_H rfl (by decide) rfl
theorem pf4000_4 {v : Int32} {K : PH → PR} : pF (HH A G e) 4000 4 4 (.int v) K = K (HH A (up3 G 4 0 4 v) e) := pF_H rfl (by decide) rfl
theorem gf4000_5 {K : Int32 → PR} : gI (HH A G e) 4000 4 5 K = K (G 4 0 5) := gI_H rfl (by decide) rfl
theorem pf4000_5 {v : Int32} {K : PH → PR} : pF (HH A G e) 4000 4 5 (.int v) K = K (HH A (up3 G 4 0 5 v) e) := pF_H rfl (by decide) rfl
theorem gf4000_6 {K : Int32 → PR} : gI (HH A G e) 4000 4 6 K = K (G 4 0 6) := gI_H rfl (by decide) rfl
theorem pf4000_6 {v : Int32} {K : PH → PR} : pF (HH A G e) 4000 4 6 (.int v) K = K (HH A (up3 G 4 0 6 v) e) := pF_H rfl (by decide) rfl
theorem gf4000_7 {K : Int32 → PR} : gI (HH A G e) 4000 4 7 K = K (G 4 0 7) := gI_H rfl (by decide) rfl
theorem pf4000_7 {v : Int32} {K : PH → PR} : pF (HH A G e) 4000 4 7 (.int v) K = K (HH A (up3 G 4 0 7 v) e) := pF_H rfl (by decide) rfl
theorem gf4000_8 {K : Int32 → PR} : gI (HH A G e) 4000 4 8 K = K (G 4 0 8) := gI_H rfl (by decide) rfl
theorem pf4000_8 {v : Int32} {K : PH → PR} : pF (HH A G e) 4000 4 8 (.int v) K = K (HH A (up3 G 4 0 8 v) e) := pF_H rfl (by decide) rfl
theorem rf4000_9 {N : PR} {K : Nat → PR} : gR (HH A G e) 4000 4 9 N K = K 20007 := gR_H rfl (by decide) rfl
theorem vo4001 {K : PR} : vO (HH A G e) (some (.ref 4001)) 4 K = K := vO_H rfl
theorem gf4001_0 {K : Int32 → PR} : gI (HH A G e) 4001 4 0 K = K (G 4 1 0) := gI_H rfl (by decide) rfl
theorem pf4001_0 {v : Int32} {K : PH → PR} : pF (HH A G e) 4001 4 0 (.int v) K = K (HH A (up3 G 4 1 0 v) e) := pF_H rfl (by decide) rfl
theorem gf4001_1 {K : Int32 → PR} : gI (HH A G e) 4001 4 1 K = K (G 4 1 1) := gI_H rfl (by decide) rfl
theorem pf4001_1 {v : Int32} {K : PH → PR} : pF (HH A G e) 4001 4 1 (.int v) K = K (HH A (up3 G 4 1 1 v) e) := pF_H rfl (by decide) rfl
theorem gf4001_2 {K : Int32 → PR} : gI (HH A G e) 4001 4 2 K = K (G 4 1 2) := gI_H rfl (by decide) rfl
theorem pf4001_2 {v : Int32} {K : PH → PR} : pF (HH A G e) 4001 4 2 (.int v) K = K (HH A (up3 G 4 1 2 v) e) := pF_H rfl (by decide) rfl
theorem gf4001_3 {K : Int32 → PR} : gI (HH A G e) 4001 4 3 K = K (G 4 1 3) := gI_H rfl (by decide) rfl
theorem pf4001_3 {v : Int32} {K : PH → PR} : pF (HH A G e) 4001 4 3 (.int v) K = K (HH A (up3 G 4 1 3 v) e) := pF_H rfl (by decide) rfl
theorem gf4001_4 {K : Int32 → PR} : gI (HH A G e) 4001 4 4 K = K (G 4 1 4) := gI_H rfl (by decide) rfl
theorem pf4001_4 {v : Int32} {K : PH → PR} : pF (HH A G e) 4001 4 4 (.int v) K = K (HH A (up3 G 4 1 4 v) e) := pF_H rfl (by decide) rfl
theorem gf4001_5 {K : Int32 → PR} : gI (HH A G e) 4001 4 5 K = K (G 4 1 5) := gI_H rfl (by decide) rfl
theorem pf4001_5 {v : Int32} {K : PH → PR} : pF (HH A G e) 4001 4 5 (.int v) K = K (HH A (up3 G 4 1 5 v) e) := pF_H rfl (by decide) rfl
theorem gf4001_6 {K : Int32 → PR} : gI (HH A G e) 4001 4 6 K = K (G 4 1 6) := gI_H rfl (by decide) rfl
theorem pf4001_6 {v : Int32} {K : PH → PR} : pF (HH A G e) 4001 4 6 (.int v) K = K (HH A (up3 G 4 1 6 v) e) := pF_H rfl (by decide) rfl
theorem gf4001_7 {K : Int32 → PR} : gI (HH A G e) 4001 4 7 K = K (G 4 1 7) := gI_H rfl (by decide) rfl
theorem pf4001_7 {v : Int32} {K : PH → PR} : pF (HH A G e) 4001 4 7 (.int v) K = K (HH A (up3 G 4 1 7 v) e) := pF_H rfl (by decide) rfl
theorem gf4001_8 {K : Int32 → PR} : gI (HH A G e) 4001 4 8 K = K (G 4 1 8) := gI_H rfl (by decide) rfl
theorem pf4001_8 {v : Int32} {K : PH → PR} : pF (HH A G e) 4001 4 8 (.int v) K = K (HH A (up3 G 4 1 8 v) e) := pF_H rfl (by decide) rfl
theorem rf4001_9 {N : PR} {K : Nat → PR} : gR (HH A G e) 4001 4 9 N K = K 20008 := gR_H rfl (by decide) rfl
theorem ga20000 {i : Int32} {K : Int32 → PR} : aI ro (HH A G e) 20000 0 i K = ib i 64 (K (A 20000 0 i.toNatClampNeg)) := aI_H (k := 20000) (by decide) (by decide) rfl
theorem sa20000 {i v : Int32} {K : PH → PR} : sI (HH A G e) 20000 0 i v K = ib i 64 (K (HH (up3 A 20000 0 i.toNatClampNeg v) G e)) := sI_H (k := 20000) (by decide) (by decide) rfl
theorem ga20001 {i : Int32} {K : Int32 → PR} : aI ro (HH A G e) 20001 0 i K = ib i 64 (K (A 20001 0 i.toNatClampNeg)) := aI_H (k := 20001) (by decide) (by decide) rfl
theorem sa20001 {i v : Int32} {K : PH → PR} : sI (HH A G e) 20001 0 i v K = ib i 64 (K (HH (up3 A 20001 0 i.toNatClampNeg v) G e)) := sI_H (k := 20001) (by decide) (by decide) rfl
theorem ga20002 {i : Int32} {K : Int32 → PR} : aI ro (HH A G e) 20002 0 i K = ib i 64 (K (A 20002 0 i.toNatClampNeg)) := aI_H (k := 20002) (by decide) (by decide) rfl
theorem sa20002 {i v : Int32} {K : PH → PR} : sI (HH A G e) 20002 0 i v K = ib i 64 (K (HH (up3 A 20002 0 i.toNatClampNeg v) G e)) := sI_H (k := 20002) (by decide) (by decide) rfl
theorem ga20003 {i : Int32} {K : Int32 → PR} : aI ro (HH A G e) 20003 0 i K = ib i 64 (K (A 20003 0 i.toNatClampNeg)) := aI_H (k := 20003) (by decide) (by decide) rfl
theorem sa20003 {i v : Int32} {K : PH → PR} : sI (HH A G e) 20003 0 i v K = ib i 64 (K (HH (up3 A 20003 0 i.toNatClampNeg v) G e)) := sI_H (k := 20003) (by decide) (by decide) rfl
theorem ga20004 {i : Int32} {K : Int32 → PR} : aI ro (HH A G e) 20004 0 i K = ib i 200 (K (A 20004 0 i.toNatClampNeg)) := aI_H (k := 20004) (by decide) (by decide) rfl
theorem sa20004 {i v : Int32} {K : PH → PR} : sI (HH A G e) 20004 0 i v K = ib i 200 (K (HH (up3 A 20004 0 i.toNatClampNeg v) G e)) := sI_H (k := 20004) (by decide) (by decide) rfl
theorem ga20005 {i : Int32} {K : Int32 → PR} : aI ro (HH A G e) 20005 0 i K = ib i 200 (K (A 20005 0 i.toNatClampNeg)) := aI_H (k := 20005) (by decide) (by decide) rfl
theorem sa20005 {i v : Int32} {K : PH → PR} : sI (HH A G e) 20005 0 i v K = ib i 200 (K (HH (up3 A 20005 0 i.toNatClampNeg v) G e)) := sI_H (k := 20005) (by decide) (by decide) rfl
theorem ga20009 {i : Int32} {K : Int32 → PR} : aI ro (HH A G e) 20009 0 i K = ib i 201 (K (A 20009 0 i.toNatClampNeg)) := aI_H (k := 20009) (by decide) (by decide) rfl
theorem sa20009 {i v : Int32} {K : PH → PR} : sI (HH A G e) 20009 0 i v K = ib i 201 (K (HH (up3 A 20009 0 i.toNatClampNeg v) G e)) := sI_H (k := 20009) (by decide) (by decide) rfl
theorem ga20010 {i : Int32} {K : Int32 → PR} : aI ro (HH A G e) 20010 0 i K = ib i 201 (K (A 20010 0 i.toNatClampNeg)) := aI_H (k := 20010) (by decide) (by decide) rfl
theorem sa20010 {i v : Int32} {K : PH → PR} : sI (HH A G e) 20010 0 i v K = ib i 201 (K (HH (up3 A 20010 0 i.toNatClampNeg v) G e)) := sI_H (k := 20010) (by decide) (by decide) rfl
theorem ga20012 {i : Int32} {K : Int32 → PR} : aI ro (HH A G e) 20012 0 i K = ib i 12 (K (A 20012 0 i.toNatClampNeg)) := aI_H (k := 20012) (by decide) (by decide) rfl
theorem sa20012 {i v : Int32} {K : PH → PR} : sI (HH A G e) 20012 0 i v K = ib i 12 (K (HH (up3 A 20012 0 i.toNatClampNeg v) G e)) := sI_H (k := 20012) (by decide) (by decide) rfl
theorem ga20013 {i : Int32} {K : Int32 → PR} : aI ro (HH A G e) 20013 0 i K = ib i 12 (K (A 20013 0 i.toNatClampNeg)) := aI_H (k := 20013) (by decide) (by decide) rfl
theorem sa20013 {i v : Int32} {K : PH → PR} : sI (HH A G e) 20013 0 i v K = ib i 12 (K (HH (up3 A 20013 0 i.toNatClampNeg v) G e)) := sI_H (k := 20013) (by decide) (by decide) rfl
theorem ga20015 {i : Int32} {K : Int32 → PR} : aI ro (HH A G e) 20015 0 i K = ib i 9 (K (A 20015 0 i.toNatClampNeg)) := aI_H (k := 20015) (by decide) (by decide) rfl
theorem sa20015 {i v : Int32} {K : PH → PR} : sI (HH A G e) 20015 0 i v K = ib i 9 (K (HH (up3 A 20015 0 i.toNatClampNeg v) G e)) := sI_H (k := 20015) (by decide) (by decide) rfl
theorem ga20016 {i : Int32} {K : Int32 → PR} : aI ro (HH A G e) 20016 0 i K = ib i 0 (K (A 20016 0 i.toNatClampNeg)) := aI_H (k := 20016) (by decide) (by decide) rfl
theorem sa20016 {i v : Int32} {K : PH → PR} : sI (HH A G e) 20016 0 i v K = ib i 0 (K (HH (up3 A 20016 0 i.toNatClampNeg v) G e)) := sI_H (k := 20016) (by decide) (by decide) rfl
theorem ga20017 {i : Int32} {K : Int32 → PR} : aI ro (HH A G e) 20017 0 i K = ib i 80 (K (A 20017 0 i.toNatClampNeg)) := aI_H (k := 20017) (by decide) (by decide) rfl
theorem sa20017 {i v : Int32} {K : PH → PR} : sI (HH A G e) 20017 0 i v K = ib i 80 (K (HH (up3 A 20017 0 i.toNatClampNeg v) G e)) := sI_H (k := 20017) (by decide) (by decide) rfl
theorem ga20018 {i : Int32} {K : Int32 → PR} : aI ro (HH A G e) 20018 0 i K = ib i 32 (K (A 20018 0 i.toNatClampNeg)) := aI_H (k := 20018) (by decide) (by decide) rfl
theorem sa20018 {i v : Int32} {K : PH → PR} : sI (HH A G e) 20018 0 i v K = ib i 32 (K (HH (up3 A 20018 0 i.toNatClampNeg v) G e)) := sI_H (k := 20018) (by decide) (by decide) rfl
theorem ga20019 {i : Int32} {K : Int32 → PR} : aI ro (HH A G e) 20019 0 i K = ib i 320 (K (A 20019 0 i.toNatClampNeg)) := aI_H (k := 20019) (by decide) (by decide) rfl
theorem sa20019 {i v : Int32} {K : PH → PR} : sI (HH A G e) 20019 0 i v K = ib i 320 (K (HH (up3 A 20019 0 i.toNatClampNeg v) G e)) := sI_H (k := 20019) (by decide) (by decide) rfl
theorem ga20020 {i : Int32} {K : Int32 → PR} : aI ro (HH A G e) 20020 0 i K = ib i 20 (K (A 20020 0 i.toNatClampNeg)) := aI_H (k := 20020) (by decide) (by decide) rfl
theorem sa20020 {i v : Int32} {K : PH → PR} : sI (HH A G e) 20020 0 i v K = ib i 20 (K (HH (up3 A 20020 0 i.toNatClampNeg v) G e)) := sI_H (k := 20020) (by decide) (by decide) rfl
theorem ga20022 {i : Int32} {K : Int32 → PR} : aI ro (HH A G e) 20022 0 i K = ib i 60 (K (A 20022 0 i.toNatClampNeg)) := aI_H (k := 20022) (by decide) (by decide) rfl
theorem sa20022 {i v : Int32} {K : PH → PR} : sI (HH A G e) 20022 0 i v K = ib i 60 (K (HH (up3 A 20022 0 i.toNatClampNeg v) G e)) := sI_H (k := 20022) (by decide) (by decide) rfl
theorem ga20023 {i : Int32} {K : Int32 → PR} : aI ro (HH A G e) 20023 0 i K = ib i 60 (K (A 20022 1 i.toNatClampNeg)) := aI_H (k := 20023) (by decide) (by decide) rfl
theorem sa20023 {i v : Int32} {K : PH → PR} : sI (HH A G e) 20023 0 i v K = ib i 60 (K (HH (up3 A 20022 1 i.toNatClampNeg v) G e)) := sI_H (k := 20023) (by decide) (by decide) rfl
theorem ga20024 {i : Int32} {K : Int32 → PR} : aI ro (HH A G e) 20024 0 i K = ib i 60 (K (A 20022 2 i.toNatClampNeg)) := aI_H (k := 20024) (by decide) (by decide) rfl
theorem sa20024 {i v : Int32} {K : PH → PR} : sI (HH A G e) 20024 0 i v K = ib i 60 (K (HH (up3 A 20022 2 i.toNatClampNeg v) G e)) := sI_H (k := 20024) (by decide) (by decide) rfl
theorem ga20025 {i : Int32} {K : Int32 → PR} : aI ro (HH A G e) 20025 0 i K = ib i 60 (K (A 20022 3 i.toNatClampNeg)) := aI_H (k := 20025) (by decide) (by decide) rfl
theorem sa20025 {i v : Int32} {K : PH → PR} : sI (HH A G e) 20025 0 i v K = ib i 60 (K (HH (up3 A 20022 3 i.toNatClampNeg v) G e)) := sI_H (k := 20025) (by decide) (by decide) rfl
theorem ga20026 {i : Int32} {K : Int32 → PR} : aI ro (HH A G e) 20026 0 i K = ib i 60 (K (A 20022 4 i.toNatClampNeg)) := aI_H (k := 20026) (by decide) (by decide) rfl
theorem sa20026 {i v : Int32} {K : PH → PR} : sI (HH A G e) 20026 0 i v K = ib i 60 (K (HH (up3 A 20022 4 i.toNatClampNeg v) G e)) := sI_H (k := 20026) (by decide) (by decide) rfl
theorem ga20027 {i : Int32} {K : Int32 → PR} : aI ro (HH A G e) 20027 0 i K = ib i 60 (K (A 20022 5 i.toNatClampNeg)) := aI_H (k := 20027) (by decide) (by decide) rfl
theorem sa20027 {i v : Int32} {K : PH → PR} : sI (HH A G e) 20027 0 i v K = ib i 60 (K (HH (up3 A 20022 5 i.toNatClampNeg v) G e)) := sI_H (k := 20027) (by decide) (by decide) rfl
theorem ga20028 {i : Int32} {K : Int32 → PR} : aI ro (HH A G e) 20028 0 i K = ib i 16 (K (A 20028 0 i.toNatClampNeg)) := aI_H (k := 20028) (by decide) (by decide) rfl
theorem sa20028 {i v : Int32} {K : PH → PR} : sI (HH A G e) 20028 0 i v K = ib i 16 (K (HH (up3 A 20028 0 i.toNatClampNeg v) G e)) := sI_H (k := 20028) (by decide) (by decide) rfl
theorem ga20029 {i : Int32} {K : Int32 → PR} : aI ro (HH A G e) 20029 0 i K = ib i 64 (K (A 20029 0 i.toNatClampNeg)) := aI_H (k := 20029) (by decide) (by decide) rfl
theorem sa20029 {i v : Int32} {K : PH → PR} : sI (HH A G e) 20029 0 i v K = ib i 64 (K (HH (up3 A 20029 0 i.toNatClampNeg v) G e)) := sI_H (k := 20029) (by decide) (by decide) rfl
theorem ga20030 {i : Int32} {K : Int32 → PR} : aI ro (HH A G e) 20030 0 i K = ib i 64 (K (A 20030 0 i.toNatClampNeg)) := aI_H (k := 20030) (by decide) (by decide) rfl
theorem sa20030 {i v : Int32} {K : PH → PR} : sI (HH A G e) 20030 0 i v K = ib i 64 (K (HH (up3 A 20030 0 i.toNatClampNeg v) G e)) := sI_H (k := 20030) (by decide) (by decide) rfl
theorem ga20031 {i : Int32} {K : Int32 → PR} : aI ro (HH A G e) 20031 0 i K = ib i 64 (K (A 20031 0 i.toNatClampNeg)) := aI_H (k := 20031) (by decide) (by decide) rfl
theorem sa20031 {i v : Int32} {K : PH → PR} : sI (HH A G e) 20031 0 i v K = ib i 64 (K (HH (up3 A 20031 0 i.toNatClampNeg v) G e)) := sI_H (k := 20031) (by decide) (by decide) rfl
theorem ga20032 {i : Int32} {K : Int32 → PR} : aI ro (HH A G e) 20032 0 i K = ib i 64 (K (A 20032 0 i.toNatClampNeg)) := aI_H (k := 20032) (by decide) (by decide) rfl
theorem sa20032 {i v : Int32} {K : PH → PR} : sI (HH A G e) 20032 0 i v K = ib i 64 (K (HH (up3 A 20032 0 i.toNatClampNeg v) G e)) := sI_H (k := 20032) (by decide) (by decide) rfl
theorem ga20033 {i : Int32} {K : Int32 → PR} : aI ro (HH A G e) 20033 0 i K = ib i 200 (K (A 20033 0 i.toNatClampNeg)) := aI_H (k := 20033) (by decide) (by decide) rfl
theorem sa20033 {i v : Int32} {K : PH → PR} : sI (HH A G e) 20033 0 i v K = ib i 200 (K (HH (up3 A 20033 0 i.toNatClampNeg v) G e)) := sI_H (k := 20033) (by decide) (by decide) rfl
theorem ga20034 {i : Int32} {K : Int32 → PR} : aI ro (HH A G e) 20034 0 i K = ib i 12 (K (A 20034 0 i.toNatClampNeg)) := aI_H (k := 20034) (by decide) (by decide) rfl
theorem sa20034 {i v : Int32} {K : PH → PR} : sI (HH A G e) 20034 0 i v K = ib i 12 (K (HH (up3 A 20034 0 i.toNatClampNeg v) G e)) := sI_H (k := 20034) (by decide) (by decide) rfl
theorem ga20035 {i : Int32} {K : Int32 → PR} : aI ro (HH A G e) 20035 0 i K = ib i 12 (K (A 20035 0 i.toNatClampNeg)) := aI_H (k := 20035) (by decide) (by decide) rfl
theorem sa20035 {i v : Int32} {K : PH → PR} : sI (HH A G e) 20035 0 i v K = ib i 12 (K (HH (up3 A 20035 0 i.toNatClampNeg v) G e)) := sI_H (k := 20035) (by decide) (by decide) rfl
theorem ga20036 {i : Int32} {K : Int32 → PR} : aI ro (HH A G e) 20036 0 i K = ib i 2 (K (A 20036 0 i.toNatClampNeg)) := aI_H (k := 20036) (by decide) (by decide) rfl
theorem sa20036 {i v : Int32} {K : PH → PR} : sI (HH A G e) 20036 0 i v K = ib i 2 (K (HH (up3 A 20036 0 i.toNatClampNeg v) G e)) := sI_H (k := 20036) (by decide) (by decide) rfl
theorem ga20037 {i : Int32} {K : Int32 → PR} : aI ro (HH A G e) 20037 0 i K = ib i 2 (K (A 20037 0 i.toNatClampNeg)) := aI_H (k := 20037) (by decide) (by decide) rfl
theorem sa20037 {i v : Int32} {K : PH → PR} : sI (HH A G e) 20037 0 i v K = ib i 2 (K (HH (up3 A 20037 0 i.toNatClampNeg v) G e)) := sI_H (k := 20037) (by decide) (by decide) rfl
theorem ga20038 {i : Int32} {K : Int32 → PR} : aI ro (HH A G e) 20038 0 i K = ib i 2 (K (A 20038 0 i.toNatClampNeg)) := aI_H (k := 20038) (by decide) (by decide) rfl
theorem sa20038 {i v : Int32} {K : PH → PR} : sI (HH A G e) 20038 0 i v K = ib i 2 (K (HH (up3 A 20038 0 i.toNatClampNeg v) G e)) := sI_H (k := 20038) (by decide) (by decide) rfl
theorem ga20039 {i : Int32} {K : Int32 → PR} : aI ro (HH A G e) 20039 0 i K = ib i 2 (K (A 20039 0 i.toNatClampNeg)) := aI_H (k := 20039) (by decide) (by decide) rfl
theorem sa20039 {i v : Int32} {K : PH → PR} : sI (HH A G e) 20039 0 i v K = ib i 2 (K (HH (up3 A 20039 0 i.toNatClampNeg v) G e)) := sI_H (k := 20039) (by decide) (by decide) rfl
theorem ga20040 {i : Int32} {K : Int32 → PR} : aI ro (HH A G e) 20040 0 i K = ib i 2 (K (A 20040 0 i.toNatClampNeg)) := aI_H (k := 20040) (by decide) (by decide) rfl
theorem sa20040 {i v : Int32} {K : PH → PR} : sI (HH A G e) 20040 0 i v K = ib i 2 (K (HH (up3 A 20040 0 i.toNatClampNeg v) G e)) := sI_H (k := 20040) (by decide) (by decide) rfl
theorem ga20041 {i : Int32} {K : Int32 → PR} : aI ro (HH A G e) 20041 0 i K = ib i 2 (K (A 20041 0 i.toNatClampNeg)) := aI_H (k := 20041) (by decide) (by decide) rfl
theorem sa20041 {i v : Int32} {K : PH → PR} : sI (HH A G e) 20041 0 i v K = ib i 2 (K (HH (up3 A 20041 0 i.toNatClampNeg v) G e)) := sI_H (k := 20041) (by decide) (by decide) rfl
theorem ga20042 {i : Int32} {K : Int32 → PR} : aI ro (HH A G e) 20042 0 i K = ib i 2 (K (A 20042 0 i.toNatClampNeg)) := aI_H (k := 20042) (by decide) (by decide) rfl
theorem sa20042 {i v : Int32} {K : PH → PR} : sI (HH A G e) 20042 0 i v K = ib i 2 (K (HH (up3 A 20042 0 i.toNatClampNeg v) G e)) := sI_H (k := 20042) (by decide) (by decide) rfl
theorem ga20043 {i : Int32} {K : Int32 → PR} : aI ro (HH A G e) 20043 0 i K = ib i 2 (K (A 20043 0 i.toNatClampNeg)) := aI_H (k := 20043) (by decide) (by decide) rfl
theorem sa20043 {i v : Int32} {K : PH → PR} : sI (HH A G e) 20043 0 i v K = ib i 2 (K (HH (up3 A 20043 0 i.toNatClampNeg v) G e)) := sI_H (k := 20043) (by decide) (by decide) rfl
theorem ga20044 {i : Int32} {K : Int32 → PR} : aI ro (HH A G e) 20044 0 i K = ib i 120 (K (A 20044 0 i.toNatClampNeg)) := aI_H (k := 20044) (by decide) (by decide) rfl
theorem sa20044 {i v : Int32} {K : PH → PR} : sI (HH A G e) 20044 0 i v K = ib i 120 (K (HH (up3 A 20044 0 i.toNatClampNeg v) G e)) := sI_H (k := 20044) (by decide) (by decide) rfl
theorem ga20045 {i : Int32} {K : Int32 → PR} : aI ro (HH A G e) 20045 0 i K = ib i 120 (K (A 20045 0 i.toNatClampNeg)) := aI_H (k := 20045) (by decide) (by decide) rfl
theorem sa20045 {i v : Int32} {K : PH → PR} : sI (HH A G e) 20045 0 i v K = ib i 120 (K (HH (up3 A 20045 0 i.toNatClampNeg v) G e)) := sI_H (k := 20045) (by decide) (by decide) rfl
theorem ga20046 {i : Int32} {K : Int32 → PR} : aI ro (HH A G e) 20046 0 i K = ib i 120 (K (A 20046 0 i.toNatClampNeg)) := aI_H (k := 20046) (by decide) (by decide) rfl
theorem sa20046 {i v : Int32} {K : PH → PR} : sI (HH A G e) 20046 0 i v K = ib i 120 (K (HH (up3 A 20046 0 i.toNatClampNeg v) G e)) := sI_H (k := 20046) (by decide) (by decide) rfl
theorem ga20047 {i : Int32} {K : Int32 → PR} : aI ro (HH A G e) 20047 0 i K = ib i 120 (K (A 20047 0 i.toNatClampNeg)) := aI_H (k := 20047) (by decide) (by decide) rfl
theorem sa20047 {i v : Int32} {K : PH → PR} : sI (HH A G e) 20047 0 i v K = ib i 120 (K (HH (up3 A 20047 0 i.toNatClampNeg v) G e)) := sI_H (k := 20047) (by decide) (by decide) rfl
theorem ga20048 {i : Int32} {K : Int32 → PR} : aI ro (HH A G e) 20048 0 i K = ib i 120 (K (A 20048 0 i.toNatClampNeg)) := aI_H (k := 20048) (by decide) (by decide) rfl
theorem sa20048 {i v : Int32} {K : PH → PR} : sI (HH A G e) 20048 0 i v K = ib i 120 (K (HH (up3 A 20048 0 i.toNatClampNeg v) G e)) := sI_H (k := 20048) (by decide) (by decide) rfl
theorem ga20049 {i : Int32} {K : Int32 → PR} : aI ro (HH A G e) 20049 0 i K = ib i 120 (K (A 20049 0 i.toNatClampNeg)) := aI_H (k := 20049) (by decide) (by decide) rfl
theorem sa20049 {i v : Int32} {K : PH → PR} : sI (HH A G e) 20049 0 i v K = ib i 120 (K (HH (up3 A 20049 0 i.toNatClampNeg v) G e)) := sI_H (k := 20049) (by decide) (by decide) rfl
theorem ga20050 {i : Int32} {K : Int32 → PR} : aI ro (HH A G e) 20050 0 i K = ib i 120 (K (A 20050 0 i.toNatClampNeg)) := aI_H (k := 20050) (by decide) (by decide) rfl
theorem sa20050 {i v : Int32} {K : PH → PR} : sI (HH A G e) 20050 0 i v K = ib i 120 (K (HH (up3 A 20050 0 i.toNatClampNeg v) G e)) := sI_H (k := 20050) (by decide) (by decide) rfl
theorem ga20051 {i : Int32} {K : Int32 → PR} : aI ro (HH A G e) 20051 0 i K = ib i 120 (K (A 20051 0 i.toNatClampNeg)) := aI_H (k := 20051) (by decide) (by decide) rfl
theorem sa20051 {i v : Int32} {K : PH → PR} : sI (HH A G e) 20051 0 i v K = ib i 120 (K (HH (up3 A 20051 0 i.toNatClampNeg v) G e)) := sI_H (k := 20051) (by decide) (by decide) rfl
theorem ga20052 {i : Int32} {K : Int32 → PR} : aI ro (HH A G e) 20052 0 i K = ib i 201 (K (A 20052 0 i.toNatClampNeg)) := aI_H (k := 20052) (by decide) (by decide) rfl
theorem sa20052 {i v : Int32} {K : PH → PR} : sI (HH A G e) 20052 0 i v K = ib i 201 (K (HH (up3 A 20052 0 i.toNatClampNeg v) G e)) := sI_H (k := 20052) (by decide) (by decide) rfl
theorem ga20053 {i : Int32} {K : Int32 → PR} : aI ro (HH A G e) 20053 0 i K = ib i 201 (K (A 20053 0 i.toNatClampNeg)) := aI_H (k := 20053) (by decide) (by decide) rfl
theorem sa20053 {i v : Int32} {K : PH → PR} : sI (HH A G e) 20053 0 i v K = ib i 201 (K (HH (up3 A 20053 0 i.toNatClampNeg v) G e)) := sI_H (k := 20053) (by decide) (by decide) rfl
theorem ga20054 {i : Int32} {K : Int32 → PR} : aI ro (HH A G e) 20054 0 i K = ib i 200 (K (A 20054 0 i.toNatClampNeg)) := aI_H (k := 20054) (by decide) (by decide) rfl
theorem sa20054 {i v : Int32} {K : PH → PR} : sI (HH A G e) 20054 0 i v K = ib i 200 (K (HH (up3 A 20054 0 i.toNatClampNeg v) G e)) := sI_H (k := 20054) (by decide) (by decide) rfl
theorem ga20055 {i : Int32} {K : Int32 → PR} : aI ro (HH A G e) 20055 0 i K = ib i 12 (K (A 20055 0 i.toNatClampNeg)) := aI_H (k := 20055) (by decide) (by decide) rfl
theorem sa20055 {i v : Int32} {K : PH → PR} : sI (HH A G e) 20055 0 i v K = ib i 12 (K (HH (up3 A 20055 0 i.toNatClampNeg v) G e)) := sI_H (k := 20055) (by decide) (by decide) rfl
theorem ga20056 {i : Int32} {K : Int32 → PR} : aI ro (HH A G e) 20056 0 i K = ib i 12 (K (A 20056 0 i.toNatClampNeg)) := aI_H (k := 20056) (by decide) (by decide) rfl
theorem sa20056 {i v : Int32} {K : PH → PR} : sI (HH A G e) 20056 0 i v K = ib i 12 (K (HH (up3 A 20056 0 i.toNatClampNeg v) G e)) := sI_H (k := 20056) (by decide) (by decide) rfl
theorem ga20057 {i : Int32} {K : Int32 → PR} : aI ro (HH A G e) 20057 0 i K = ib i 1040 (K (A 20057 0 i.toNatClampNeg)) := aI_H (k := 20057) (by decide) (by decide) rfl
theorem sa20057 {i v : Int32} {K : PH → PR} : sI (HH A G e) 20057 0 i v K = ib i 1040 (K (HH (up3 A 20057 0 i.toNatClampNeg v) G e)) := sI_H (k := 20057) (by decide) (by decide) rfl
theorem ga20058 {i : Int32} {K : Int32 → PR} : aI ro (HH A G e) 20058 0 i K = ib i 13 (K (A 20058 0 i.toNatClampNeg)) := aI_H (k := 20058) (by decide) (by decide) rfl
theorem sa20058 {i v : Int32} {K : PH → PR} : sI (HH A G e) 20058 0 i v K = ib i 13 (K (HH (up3 A 20058 0 i.toNatClampNeg v) G e)) := sI_H (k := 20058) (by decide) (by decide) rfl
theorem ga20059 {i : Int32} {K : Int32 → PR} : aI ro (HH A G e) 20059 0 i K = ib i 9 (K (A 20059 0 i.toNatClampNeg)) := aI_H (k := 20059) (by decide) (by decide) rfl
theorem sa20059 {i v : Int32} {K : PH → PR} : sI (HH A G e) 20059 0 i v K = ib i 9 (K (HH (up3 A 20059 0 i.toNatClampNeg v) G e)) := sI_H (k := 20059) (by decide) (by decide) rfl
theorem ga20060 {i : Int32} {K : Int32 → PR} : aI ro (HH A G e) 20060 0 i K = ib i 81 (K (A 20060 0 i.toNatClampNeg)) := aI_H (k := 20060) (by decide) (by decide) rfl
theorem sa20060 {i v : Int32} {K : PH → PR} : sI (HH A G e) 20060 0 i v K = ib i 81 (K (HH (up3 A 20060 0 i.toNatClampNeg v) G e)) := sI_H (k := 20060) (by decide) (by decide) rfl
theorem ga20061 {i : Int32} {K : Int32 → PR} : aI ro (HH A G e) 20061 1 i K = ib i 81 (K (A 20061 0 i.toNatClampNeg)) := aI_H (k := 20061) (by decide) (by decide) rfl
theorem sa20061 {i v : Int32} {K : PH → PR} : sI (HH A G e) 20061 1 i v K = ib i 81 (K (HH (up3 A 20061 0 i.toNatClampNeg v) G e)) := sI_H (k := 20061) (by decide) (by decide) rfl
theorem ga20062 {i : Int32} {K : Int32 → PR} : aI ro (HH A G e) 20062 0 i K = ib i 8 (K (A 20062 0 i.toNatClampNeg)) := aI_H (k := 20062) (by decide) (by decide) rfl
theorem sa20062 {i v : Int32} {K : PH → PR} : sI (HH A G e) 20062 0 i v K = ib i 8 (K (HH (up3 A 20062 0 i.toNatClampNeg v) G e)) := sI_H (k := 20062) (by decide) (by decide) rfl
theorem ga20063 {i : Int32} {K : Int32 → PR} : aI ro (HH A G e) 20063 0 i K = ib i 320 (K (A 20063 0 i.toNatClampNeg)) := aI_H (k := 20063) (by decide) (by decide) rfl
theorem sa20063 {i v : Int32} {K : PH → PR} : sI (HH A G e) 20063 0 i v K = ib i 320 (K (HH (up3 A 20063 0 i.toNatClampNeg v) G e)) := sI_H (k := 20063) (by decide) (by decide) rfl
theorem ga20064 {i : Int32} {K : Int32 → PR} : aI ro (HH A G e) 20064 0 i K = ib i 20 (K (A 20064 0 i.toNatClampNeg)) := aI_H (k := 20064) (by decide) (by decide) rfl
theorem sa20064 {i v : Int32} {K : PH → PR} : sI (HH A G e) 20064 0 i v K = ib i 20 (K (HH (up3 A 20064 0 i.toNatClampNeg v) G e)) := sI_H (k := 20064) (by decide) (by decide) rfl
theorem ga20065 {i : Int32} {K : Int32 → PR} : aI ro (HH A G e) 20065 0 i K = ib i 6 (K (A 20065 0 i.toNatClampNeg)) := aI_H (k := 20065) (by decide) (by decide) rfl
theorem sa20065 {i v : Int32} {K : PH → PR} : sI (HH A G e) 20065 0 i v K = ib i 6 (K (HH (up3 A 20065 0 i.toNatClampNeg v) G e)) := sI_H (k := 20065) (by decide) (by decide) rfl
theorem ga20066 {i : Int32} {K : Int32 → PR} : aI ro (HH A G e) 20066 0 i K = ib i 6 (K (A 20066 0 i.toNatClampNeg)) := aI_H (k := 20066) (by decide) (by decide) rfl
theorem sa20066 {i v : Int32} {K : PH → PR} : sI (HH A G e) 20066 0 i v K = ib i 6 (K (HH (up3 A 20066 0 i.toNatClampNeg v) G e)) := sI_H (k := 20066) (by decide) (by decide) rfl
theorem ga20067 {i : Int32} {K : Int32 → PR} : aI ro (HH A G e) 20067 0 i K = ib i 360 (K (A 20067 0 i.toNatClampNeg)) := aI_H (k := 20067) (by decide) (by decide) rfl
theorem sa20067 {i v : Int32} {K : PH → PR} : sI (HH A G e) 20067 0 i v K = ib i 360 (K (HH (up3 A 20067 0 i.toNatClampNeg v) G e)) := sI_H (k := 20067) (by decide) (by decide) rfl
theorem ga20068 {i : Int32} {K : Int32 → PR} : aI ro (HH A G e) 20068 0 i K = ib i 60 (K (A 20068 0 i.toNatClampNeg)) := aI_H (k := 20068) (by decide) (by decide) rfl
theorem sa20068 {i v : Int32} {K : PH → PR} : sI (HH A G e) 20068 0 i v K = ib i 60 (K (HH (up3 A 20068 0 i.toNatClampNeg v) G e)) := sI_H (k := 20068) (by decide) (by decide) rfl
end INST
