/-! THE FIRST HEAP (printed by wip/whole/gen_ctor.py) -/
def zord : List Nat := [10000, 2000, 20000, 20001, 20002, 20003, 1000, 20004, 20005, 20006, 4000, 20007, 4001, 20008, 9000, 20009, 20010, 20011, 20012, 20013, 20014, 6000, 20015, 20016, 20017, 5000, 20018, 20019, 0, 20020, 20021, 8000, 20022, 8001, 20023, 8002, 20024, 8003, 20025, 8004, 20026, 8005, 20027, 11000, 20028, 20029, 20030, 20031, 20032, 20033, 20034, 20035, 20036, 20037, 20038, 20039, 20040, 20041, 20042, 20043, 20044, 20045, 20046, 20047, 20048, 20049, 20050, 20051, 20052, 20053, 20054, 20055, 20056, 20057, 20058, 20059, 20060, 20061, 20062, 20063, 20064, 20065, 20066, 20067, 20068]
theorem put_nn {h h' : PH} {k q : Nat} {x : PE} (e : h' = ph_put h k x) (hq : q ≠ k) (hn : h.1 q = none) : h'.1 q = none := by
  subst e
  rw [put_n hq]
  exact hn
theorem add_nn {h h' : PH} {k q kd n : Nat} {x : PE} (e : h' = ph_add h k kd n x) (hq : q ≠ k) (hn : h.1 q = none) : h'.1 q = none := by
  subst e
  rw [add_n hq]
  exact hn
theorem put_cc {h h' : PH} {k c : Nat} {x : PE} (e : h' = ph_put h k x) (hn : h.2.1 c = 1) : h'.2.1 c = 1 := by
  subst e
  exact hn
theorem add_cc {h h' : PH} {k c kd n : Nat} {x : PE} (e : h' = ph_add h k kd n x) (hc : c ≠ kd) (hn : h.2.1 c = 1) : h'.2.1 c = 1 := by
  subst e
  show va_up h.2.1 kd (h.2.1 kd + 1) c = 1
  unfold va_up
  rw [if_neg hc]
  exact hn
set_option maxRecDepth 100000 in
theorem zm10000 : 10000 ∈ zord := by decide
set_option maxRecDepth 100000 in
theorem zm2000 : 2000 ∈ zord := by decide
set_option maxRecDepth 100000 in
theorem zm20000 : 20000 ∈ zord := by decide
set_option maxRecDepth 100000 in
theorem zm20001 : 20001 ∈ zord := by decide
set_option maxRecDepth 100000 in
theorem zm20002 : 20002 ∈ zord := by decide
set_option maxRecDepth 100000 in
theorem zm20003 : 20003 ∈ zord := by decide
set_option maxRecDepth 100000 in
theorem zm1000 : 1000 ∈ zord := by decide
set_option maxRecDepth 100000 in
theorem zm20004 : 20004 ∈ zord := by decide
set_option maxRecDepth 100000 in
theorem zm20005 : 20005 ∈ zord := by decide
set_option maxRecDepth 100000 in
theorem zm20006 : 20006 ∈ zord := by decide
set_option maxRecDepth 100000 in
theorem zm4000 : 4000 ∈ zord := by decide
set_option maxRecDepth 100000 in
theorem zm20007 : 20007 ∈ zord := by decide
set_option maxRecDepth 100000 in
theorem zm4001 : 4001 ∈ zord := by decide
set_option maxRecDepth 100000 in
theorem zm20008 : 20008 ∈ zord := by decide
set_option maxRecDepth 100000 in
theorem zm9000 : 9000 ∈ zord := by decide
set_option maxRecDepth 100000 in
theorem zm20009 : 20009 ∈ zord := by decide
set_option maxRecDepth 100000 in
theorem zm20010 : 20010 ∈ zord := by decide
set_option maxRecDepth 100000 in
theorem zm20011 : 20011 ∈ zord := by decide
set_option maxRecDepth 100000 in
theorem zm20012 : 20012 ∈ zord := by decide
set_option maxRecDepth 100000 in
theorem zm20013 : 20013 ∈ zord := by decide
set_option maxRecDepth 100000 in
theorem zm20014 : 20014 ∈ zord := by decide
set_option maxRecDepth 100000 in
theorem zm6000 : 6000 ∈ zord := by decide
set_option maxRecDepth 100000 in
theorem zm20015 : 20015 ∈ zord := by decide
set_option maxRecDepth 100000 in
theorem zm20016 : 20016 ∈ zord := by decide
set_option maxRecDepth 100000 in
theorem zm20017 : 20017 ∈ zord := by decide
set_option maxRecDepth 100000 in
theorem zm5000 : 5000 ∈ zord := by decide
set_option maxRecDepth 100000 in
theorem zm20018 : 20018 ∈ zord := by decide
set_option maxRecDepth 100000 in
theorem zm20019 : 20019 ∈ zord := by decide
set_option maxRecDepth 100000 in
theorem zm0 : 0 ∈ zord := by decide
set_option maxRecDepth 100000 in
theorem zm20020 : 20020 ∈ zord := by decide
set_option maxRecDepth 100000 in
theorem zm20021 : 20021 ∈ zord := by decide
set_option maxRecDepth 100000 in
theorem zm8000 : 8000 ∈ zord := by decide
set_option maxRecDepth 100000 in
theorem zm20022 : 20022 ∈ zord := by decide
set_option maxRecDepth 100000 in
theorem zm8001 : 8001 ∈ zord := by decide
set_option maxRecDepth 100000 in
theorem zm20023 : 20023 ∈ zord := by decide
set_option maxRecDepth 100000 in
theorem zm8002 : 8002 ∈ zord := by decide
set_option maxRecDepth 100000 in
theorem zm20024 : 20024 ∈ zord := by decide
set_option maxRecDepth 100000 in
theorem zm8003 : 8003 ∈ zord := by decide
set_option maxRecDepth 100000 in
theorem zm20025 : 20025 ∈ zord := by decide
set_option maxRecDepth 100000 in
theorem zm8004 : 8004 ∈ zord := by decide
set_option maxRecDepth 100000 in
theorem zm20026 : 20026 ∈ zord := by decide
set_option maxRecDepth 100000 in
theorem zm8005 : 8005 ∈ zord := by decide
set_option maxRecDepth 100000 in
theorem zm20027 : 20027 ∈ zord := by decide
set_option maxRecDepth 100000 in
theorem zm11000 : 11000 ∈ zord := by decide
set_option maxRecDepth 100000 in
theorem zm20028 : 20028 ∈ zord := by decide
set_option maxRecDepth 100000 in
theorem zm20029 : 20029 ∈ zord := by decide
set_option maxRecDepth 100000 in
theorem zm20030 : 20030 ∈ zord := by decide
set_option maxRecDepth 100000 in
theorem zm20031 : 20031 ∈ zord := by decide
set_option maxRecDepth 100000 in
theorem zm20032 : 20032 ∈ zord := by decide
set_option maxRecDepth 100000 in
theorem zm20033 : 20033 ∈ zord := by decide
set_option maxRecDepth 100000 in
theorem zm20034 : 20034 ∈ zord := by decide
set_option maxRecDepth 100000 in
theorem zm20035 : 20035 ∈ zord := by decide
set_option maxRecDepth 100000 in
theorem zm20036 : 20036 ∈ zord := by decide
set_option maxRecDepth 100000 in
theorem zm20037 : 20037 ∈ zord := by decide
set_option maxRecDepth 100000 in
theorem zm20038 : 20038 ∈ zord := by decide
set_option maxRecDepth 100000 in
theorem zm20039 : 20039 ∈ zord := by decide
set_option maxRecDepth 100000 in
theorem zm20040 : 20040 ∈ zord := by decide
set_option maxRecDepth 100000 in
theorem zm20041 : 20041 ∈ zord := by decide
set_option maxRecDepth 100000 in
theorem zm20042 : 20042 ∈ zord := by decide
set_option maxRecDepth 100000 in
theorem zm20043 : 20043 ∈ zord := by decide
set_option maxRecDepth 100000 in
theorem zm20044 : 20044 ∈ zord := by decide
set_option maxRecDepth 100000 in
theorem zm20045 : 20045 ∈ zord := by decide
set_option maxRecDepth 100000 in
theorem zm20046 : 20046 ∈ zord := by decide
set_option maxRecDepth 100000 in
theorem zm20047 : 20047 ∈ zord := by decide
set_option maxRecDepth 100000 in
theorem zm20048 : 20048 ∈ zord := by decide
set_option maxRecDepth 100000 in
theorem zm20049 : 20049 ∈ zord := by decide
set_option maxRecDepth 100000 in
theorem zm20050 : 20050 ∈ zord := by decide
set_option maxRecDepth 100000 in
theorem zm20051 : 20051 ∈ zord := by decide
set_option maxRecDepth 100000 in
theorem zm20052 : 20052 ∈ zord := by decide
set_option maxRecDepth 100000 in
theorem zm20053 : 20053 ∈ zord := by decide
set_option maxRecDepth 100000 in
theorem zm20054 : 20054 ∈ zord := by decide
set_option maxRecDepth 100000 in
theorem zm20055 : 20055 ∈ zord := by decide
set_option maxRecDepth 100000 in
theorem zm20056 : 20056 ∈ zord := by decide
set_option maxRecDepth 100000 in
theorem zm20057 : 20057 ∈ zord := by decide
set_option maxRecDepth 100000 in
theorem zm20058 : 20058 ∈ zord := by decide
set_option maxRecDepth 100000 in
theorem zm20059 : 20059 ∈ zord := by decide
set_option maxRecDepth 100000 in
theorem zm20060 : 20060 ∈ zord := by decide
set_option maxRecDepth 100000 in
theorem zm20061 : 20061 ∈ zord := by decide
set_option maxRecDepth 100000 in
theorem zm20062 : 20062 ∈ zord := by decide
set_option maxRecDepth 100000 in
theorem zm20063 : 20063 ∈ zord := by decide
set_option maxRecDepth 100000 in
theorem zm20064 : 20064 ∈ zord := by decide
set_option maxRecDepth 100000 in
theorem zm20065 : 20065 ∈ zord := by decide
set_option maxRecDepth 100000 in
theorem zm20066 : 20066 ∈ zord := by decide
set_option maxRecDepth 100000 in
theorem zm20067 : 20067 ∈ zord := by decide
set_option maxRecDepth 100000 in
theorem zm20068 : 20068 ∈ zord := by decide
set_option maxRecDepth 100000 in
theorem zc0 {c : Nat} (h : 21 ≤ c) : hc0.2.1 c = 1 := if_neg (by omega)
set_option maxRecDepth 100000 in
theorem zx0 {k : Nat} (h : ∀ q ∈ zord, k ≠ q) : hc0.1 k = none := rfl
set_option maxRecDepth 100000 in
theorem zc1 {c : Nat} (h : 21 ≤ c) : hc1.2.1 c = 1 := add_cc rfl (show c ≠ 10 by omega) (zc0 h)
set_option maxRecDepth 100000 in
theorem zx1 {k : Nat} (h : ∀ q ∈ zord, k ≠ q) : hc1.1 k = none := add_nn rfl (h 10000 zm10000) (zx0 h)
set_option maxRecDepth 100000 in
theorem zc2 {c : Nat} (h : 21 ≤ c) : hc2.2.1 c = 1 := add_cc rfl (show c ≠ 2 by omega) (zc1 h)
set_option maxRecDepth 100000 in
theorem zx2 {k : Nat} (h : ∀ q ∈ zord, k ≠ q) : hc2.1 k = none := add_nn rfl (h 2000 zm2000) (zx1 h)
set_option maxRecDepth 100000 in
theorem zc3 {c : Nat} (h : 21 ≤ c) : hc3.2.1 c = 1 := add_cc rfl (show c ≠ 20 by omega) (zc2 h)
set_option maxRecDepth 100000 in
theorem zx3 {k : Nat} (h : ∀ q ∈ zord, k ≠ q) : hc3.1 k = none := add_nn rfl (h 20000 zm20000) (zx2 h)
set_option maxRecDepth 100000 in
theorem zc4 {c : Nat} (h : 21 ≤ c) : hc4.2.1 c = 1 := put_cc rfl (zc3 h)
set_option maxRecDepth 100000 in
theorem zx4 {k : Nat} (h : ∀ q ∈ zord, k ≠ q) : hc4.1 k = none := put_nn rfl (h 2000 zm2000) (zx3 h)
set_option maxRecDepth 100000 in
theorem zc5 {c : Nat} (h : 21 ≤ c) : hc5.2.1 c = 1 := add_cc rfl (show c ≠ 20 by omega) (zc4 h)
set_option maxRecDepth 100000 in
theorem zx5 {k : Nat} (h : ∀ q ∈ zord, k ≠ q) : hc5.1 k = none := add_nn rfl (h 20001 zm20001) (zx4 h)
set_option maxRecDepth 100000 in
theorem zc6 {c : Nat} (h : 21 ≤ c) : hc6.2.1 c = 1 := put_cc rfl (zc5 h)
set_option maxRecDepth 100000 in
theorem zx6 {k : Nat} (h : ∀ q ∈ zord, k ≠ q) : hc6.1 k = none := put_nn rfl (h 2000 zm2000) (zx5 h)
set_option maxRecDepth 100000 in
theorem zc7 {c : Nat} (h : 21 ≤ c) : hc7.2.1 c = 1 := add_cc rfl (show c ≠ 20 by omega) (zc6 h)
set_option maxRecDepth 100000 in
theorem zx7 {k : Nat} (h : ∀ q ∈ zord, k ≠ q) : hc7.1 k = none := add_nn rfl (h 20002 zm20002) (zx6 h)
set_option maxRecDepth 100000 in
theorem zc8 {c : Nat} (h : 21 ≤ c) : hc8.2.1 c = 1 := put_cc rfl (zc7 h)
set_option maxRecDepth 100000 in
theorem zx8 {k : Nat} (h : ∀ q ∈ zord, k ≠ q) : hc8.1 k = none := put_nn rfl (h 2000 zm2000) (zx7 h)
set_option maxRecDepth 100000 in
theorem zc9 {c : Nat} (h : 21 ≤ c) : hc9.2.1 c = 1 := add_cc rfl (show c ≠ 20 by omega) (zc8 h)
set_option maxRecDepth 100000 in
theorem zx9 {k : Nat} (h : ∀ q ∈ zord, k ≠ q) : hc9.1 k = none := add_nn rfl (h 20003 zm20003) (zx8 h)
set_option maxRecDepth 100000 in
theorem zc10 {c : Nat} (h : 21 ≤ c) : hc10.2.1 c = 1 := put_cc rfl (zc9 h)
set_option maxRecDepth 100000 in
theorem zx10 {k : Nat} (h : ∀ q ∈ zord, k ≠ q) : hc10.1 k = none := put_nn rfl (h 2000 zm2000) (zx9 h)
set_option maxRecDepth 100000 in
theorem zc11 {c : Nat} (h : 21 ≤ c) : hc11.2.1 c = 1 := put_cc rfl (zc10 h)
set_option maxRecDepth 100000 in
theorem zx11 {k : Nat} (h : ∀ q ∈ zord, k ≠ q) : hc11.1 k = none := put_nn rfl (h 10000 zm10000) (zx10 h)
set_option maxRecDepth 100000 in
theorem zc12 {c : Nat} (h : 21 ≤ c) : hc12.2.1 c = 1 := add_cc rfl (show c ≠ 1 by omega) (zc11 h)
set_option maxRecDepth 100000 in
theorem zx12 {k : Nat} (h : ∀ q ∈ zord, k ≠ q) : hc12.1 k = none := add_nn rfl (h 1000 zm1000) (zx11 h)
set_option maxRecDepth 100000 in
theorem zc13 {c : Nat} (h : 21 ≤ c) : hc13.2.1 c = 1 := add_cc rfl (show c ≠ 20 by omega) (zc12 h)
set_option maxRecDepth 100000 in
theorem zx13 {k : Nat} (h : ∀ q ∈ zord, k ≠ q) : hc13.1 k = none := add_nn rfl (h 20004 zm20004) (zx12 h)
set_option maxRecDepth 100000 in
theorem zc14 {c : Nat} (h : 21 ≤ c) : hc14.2.1 c = 1 := put_cc rfl (zc13 h)
set_option maxRecDepth 100000 in
theorem zx14 {k : Nat} (h : ∀ q ∈ zord, k ≠ q) : hc14.1 k = none := put_nn rfl (h 1000 zm1000) (zx13 h)
set_option maxRecDepth 100000 in
theorem zc15 {c : Nat} (h : 21 ≤ c) : hc15.2.1 c = 1 := add_cc rfl (show c ≠ 20 by omega) (zc14 h)
set_option maxRecDepth 100000 in
theorem zx15 {k : Nat} (h : ∀ q ∈ zord, k ≠ q) : hc15.1 k = none := add_nn rfl (h 20005 zm20005) (zx14 h)
set_option maxRecDepth 100000 in
theorem zc16 {c : Nat} (h : 21 ≤ c) : hc16.2.1 c = 1 := put_cc rfl (zc15 h)
set_option maxRecDepth 100000 in
theorem zx16 {k : Nat} (h : ∀ q ∈ zord, k ≠ q) : hc16.1 k = none := put_nn rfl (h 1000 zm1000) (zx15 h)
set_option maxRecDepth 100000 in
theorem zc17 {c : Nat} (h : 21 ≤ c) : hc17.2.1 c = 1 := put_cc rfl (zc16 h)
set_option maxRecDepth 100000 in
theorem zx17 {k : Nat} (h : ∀ q ∈ zord, k ≠ q) : hc17.1 k = none := put_nn rfl (h 20005 zm20005) (zx16 h)
set_option maxRecDepth 100000 in
theorem zc18 {c : Nat} (h : 21 ≤ c) : hc18.2.1 c = 1 := put_cc rfl (zc17 h)
set_option maxRecDepth 100000 in
theorem zx18 {k : Nat} (h : ∀ q ∈ zord, k ≠ q) : hc18.1 k = none := put_nn rfl (h 10000 zm10000) (zx17 h)
set_option maxRecDepth 100000 in
theorem zc19 {c : Nat} (h : 21 ≤ c) : hc19.2.1 c = 1 := add_cc rfl (show c ≠ 20 by omega) (zc18 h)
set_option maxRecDepth 100000 in
theorem zx19 {k : Nat} (h : ∀ q ∈ zord, k ≠ q) : hc19.1 k = none := add_nn rfl (h 20006 zm20006) (zx18 h)
set_option maxRecDepth 100000 in
theorem zc20 {c : Nat} (h : 21 ≤ c) : hc20.2.1 c = 1 := put_cc rfl (zc19 h)
set_option maxRecDepth 100000 in
theorem zx20 {k : Nat} (h : ∀ q ∈ zord, k ≠ q) : hc20.1 k = none := put_nn rfl (h 10000 zm10000) (zx19 h)
set_option maxRecDepth 100000 in
theorem zc21 {c : Nat} (h : 21 ≤ c) : hc21.2.1 c = 1 := add_cc rfl (show c ≠ 4 by omega) (zc20 h)
set_option maxRecDepth 100000 in
theorem zx21 {k : Nat} (h : ∀ q ∈ zord, k ≠ q) : hc21.1 k = none := add_nn rfl (h 4000 zm4000) (zx20 h)
set_option maxRecDepth 100000 in
theorem zc22 {c : Nat} (h : 21 ≤ c) : hc22.2.1 c = 1 := put_cc rfl (zc21 h)
set_option maxRecDepth 100000 in
theorem zx22 {k : Nat} (h : ∀ q ∈ zord, k ≠ q) : hc22.1 k = none := put_nn rfl (h 4000 zm4000) (zx21 h)
set_option maxRecDepth 100000 in
theorem zc23 {c : Nat} (h : 21 ≤ c) : hc23.2.1 c = 1 := put_cc rfl (zc22 h)
set_option maxRecDepth 100000 in
theorem zx23 {k : Nat} (h : ∀ q ∈ zord, k ≠ q) : hc23.1 k = none := put_nn rfl (h 4000 zm4000) (zx22 h)
set_option maxRecDepth 100000 in
theorem zc24 {c : Nat} (h : 21 ≤ c) : hc24.2.1 c = 1 := put_cc rfl (zc23 h)
set_option maxRecDepth 100000 in
theorem zx24 {k : Nat} (h : ∀ q ∈ zord, k ≠ q) : hc24.1 k = none := put_nn rfl (h 4000 zm4000) (zx23 h)
set_option maxRecDepth 100000 in
theorem zc25 {c : Nat} (h : 21 ≤ c) : hc25.2.1 c = 1 := add_cc rfl (show c ≠ 20 by omega) (zc24 h)
set_option maxRecDepth 100000 in
theorem zx25 {k : Nat} (h : ∀ q ∈ zord, k ≠ q) : hc25.1 k = none := add_nn rfl (h 20007 zm20007) (zx24 h)
set_option maxRecDepth 100000 in
theorem zc26 {c : Nat} (h : 21 ≤ c) : hc26.2.1 c = 1 := put_cc rfl (zc25 h)
set_option maxRecDepth 100000 in
theorem zx26 {k : Nat} (h : ∀ q ∈ zord, k ≠ q) : hc26.1 k = none := put_nn rfl (h 4000 zm4000) (zx25 h)
set_option maxRecDepth 100000 in
theorem zc27 {c : Nat} (h : 21 ≤ c) : hc27.2.1 c = 1 := put_cc rfl (zc26 h)
set_option maxRecDepth 100000 in
theorem zx27 {k : Nat} (h : ∀ q ∈ zord, k ≠ q) : hc27.1 k = none := put_nn rfl (h 20006 zm20006) (zx26 h)
set_option maxRecDepth 100000 in
theorem zc28 {c : Nat} (h : 21 ≤ c) : hc28.2.1 c = 1 := add_cc rfl (show c ≠ 4 by omega) (zc27 h)
set_option maxRecDepth 100000 in
theorem zx28 {k : Nat} (h : ∀ q ∈ zord, k ≠ q) : hc28.1 k = none := add_nn rfl (h 4001 zm4001) (zx27 h)
set_option maxRecDepth 100000 in
theorem zc29 {c : Nat} (h : 21 ≤ c) : hc29.2.1 c = 1 := put_cc rfl (zc28 h)
set_option maxRecDepth 100000 in
theorem zx29 {k : Nat} (h : ∀ q ∈ zord, k ≠ q) : hc29.1 k = none := put_nn rfl (h 4001 zm4001) (zx28 h)
set_option maxRecDepth 100000 in
theorem zc30 {c : Nat} (h : 21 ≤ c) : hc30.2.1 c = 1 := put_cc rfl (zc29 h)
set_option maxRecDepth 100000 in
theorem zx30 {k : Nat} (h : ∀ q ∈ zord, k ≠ q) : hc30.1 k = none := put_nn rfl (h 4001 zm4001) (zx29 h)
set_option maxRecDepth 100000 in
theorem zc31 {c : Nat} (h : 21 ≤ c) : hc31.2.1 c = 1 := put_cc rfl (zc30 h)
set_option maxRecDepth 100000 in
theorem zx31 {k : Nat} (h : ∀ q ∈ zord, k ≠ q) : hc31.1 k = none := put_nn rfl (h 4001 zm4001) (zx30 h)
set_option maxRecDepth 100000 in
theorem zc32 {c : Nat} (h : 21 ≤ c) : hc32.2.1 c = 1 := add_cc rfl (show c ≠ 20 by omega) (zc31 h)
set_option maxRecDepth 100000 in
theorem zx32 {k : Nat} (h : ∀ q ∈ zord, k ≠ q) : hc32.1 k = none := add_nn rfl (h 20008 zm20008) (zx31 h)
set_option maxRecDepth 100000 in
theorem zc33 {c : Nat} (h : 21 ≤ c) : hc33.2.1 c = 1 := put_cc rfl (zc32 h)
set_option maxRecDepth 100000 in
theorem zx33 {k : Nat} (h : ∀ q ∈ zord, k ≠ q) : hc33.1 k = none := put_nn rfl (h 4001 zm4001) (zx32 h)
set_option maxRecDepth 100000 in
theorem zc34 {c : Nat} (h : 21 ≤ c) : hc34.2.1 c = 1 := put_cc rfl (zc33 h)
set_option maxRecDepth 100000 in
theorem zx34 {k : Nat} (h : ∀ q ∈ zord, k ≠ q) : hc34.1 k = none := put_nn rfl (h 20006 zm20006) (zx33 h)
set_option maxRecDepth 100000 in
theorem zc35 {c : Nat} (h : 21 ≤ c) : hc35.2.1 c = 1 := add_cc rfl (show c ≠ 9 by omega) (zc34 h)
set_option maxRecDepth 100000 in
theorem zx35 {k : Nat} (h : ∀ q ∈ zord, k ≠ q) : hc35.1 k = none := add_nn rfl (h 9000 zm9000) (zx34 h)
set_option maxRecDepth 100000 in
theorem zc36 {c : Nat} (h : 21 ≤ c) : hc36.2.1 c = 1 := add_cc rfl (show c ≠ 20 by omega) (zc35 h)
set_option maxRecDepth 100000 in
theorem zx36 {k : Nat} (h : ∀ q ∈ zord, k ≠ q) : hc36.1 k = none := add_nn rfl (h 20009 zm20009) (zx35 h)
set_option maxRecDepth 100000 in
theorem zc37 {c : Nat} (h : 21 ≤ c) : hc37.2.1 c = 1 := put_cc rfl (zc36 h)
set_option maxRecDepth 100000 in
theorem zx37 {k : Nat} (h : ∀ q ∈ zord, k ≠ q) : hc37.1 k = none := put_nn rfl (h 9000 zm9000) (zx36 h)
set_option maxRecDepth 100000 in
theorem zc38 {c : Nat} (h : 21 ≤ c) : hc38.2.1 c = 1 := add_cc rfl (show c ≠ 20 by omega) (zc37 h)
set_option maxRecDepth 100000 in
theorem zx38 {k : Nat} (h : ∀ q ∈ zord, k ≠ q) : hc38.1 k = none := add_nn rfl (h 20010 zm20010) (zx37 h)
set_option maxRecDepth 100000 in
theorem zc39 {c : Nat} (h : 21 ≤ c) : hc39.2.1 c = 1 := put_cc rfl (zc38 h)
set_option maxRecDepth 100000 in
theorem zx39 {k : Nat} (h : ∀ q ∈ zord, k ≠ q) : hc39.1 k = none := put_nn rfl (h 9000 zm9000) (zx38 h)
set_option maxRecDepth 100000 in
theorem zc40 {c : Nat} (h : 21 ≤ c) : hc40.2.1 c = 1 := put_cc rfl (zc39 h)
set_option maxRecDepth 100000 in
theorem zx40 {k : Nat} (h : ∀ q ∈ zord, k ≠ q) : hc40.1 k = none := put_nn rfl (h 9000 zm9000) (zx39 h)
set_option maxRecDepth 100000 in
theorem zc41 {c : Nat} (h : 21 ≤ c) : hc41.2.1 c = 1 := put_cc rfl (zc40 h)
set_option maxRecDepth 100000 in
theorem zx41 {k : Nat} (h : ∀ q ∈ zord, k ≠ q) : hc41.1 k = none := put_nn rfl (h 9000 zm9000) (zx40 h)
set_option maxRecDepth 100000 in
theorem zc42 {c : Nat} (h : 21 ≤ c) : hc42.2.1 c = 1 := put_cc rfl (zc41 h)
set_option maxRecDepth 100000 in
theorem zx42 {k : Nat} (h : ∀ q ∈ zord, k ≠ q) : hc42.1 k = none := put_nn rfl (h 10000 zm10000) (zx41 h)
set_option maxRecDepth 100000 in
theorem zc43 {c : Nat} (h : 21 ≤ c) : hc43.2.1 c = 1 := add_cc rfl (show c ≠ 20 by omega) (zc42 h)
set_option maxRecDepth 100000 in
theorem zx43 {k : Nat} (h : ∀ q ∈ zord, k ≠ q) : hc43.1 k = none := add_nn rfl (h 20011 zm20011) (zx42 h)
set_option maxRecDepth 100000 in
theorem zc44 {c : Nat} (h : 21 ≤ c) : hc44.2.1 c = 1 := put_cc rfl (zc43 h)
set_option maxRecDepth 100000 in
theorem zx44 {k : Nat} (h : ∀ q ∈ zord, k ≠ q) : hc44.1 k = none := put_nn rfl (h 10000 zm10000) (zx43 h)
set_option maxRecDepth 100000 in
theorem zc45 {c : Nat} (h : 21 ≤ c) : hc45.2.1 c = 1 := add_cc rfl (show c ≠ 20 by omega) (zc44 h)
set_option maxRecDepth 100000 in
theorem zx45 {k : Nat} (h : ∀ q ∈ zord, k ≠ q) : hc45.1 k = none := add_nn rfl (h 20012 zm20012) (zx44 h)
set_option maxRecDepth 100000 in
theorem zc46 {c : Nat} (h : 21 ≤ c) : hc46.2.1 c = 1 := put_cc rfl (zc45 h)
set_option maxRecDepth 100000 in
theorem zx46 {k : Nat} (h : ∀ q ∈ zord, k ≠ q) : hc46.1 k = none := put_nn rfl (h 10000 zm10000) (zx45 h)
set_option maxRecDepth 100000 in
theorem zc47 {c : Nat} (h : 21 ≤ c) : hc47.2.1 c = 1 := add_cc rfl (show c ≠ 20 by omega) (zc46 h)
set_option maxRecDepth 100000 in
theorem zx47 {k : Nat} (h : ∀ q ∈ zord, k ≠ q) : hc47.1 k = none := add_nn rfl (h 20013 zm20013) (zx46 h)
set_option maxRecDepth 100000 in
theorem zc48 {c : Nat} (h : 21 ≤ c) : hc48.2.1 c = 1 := put_cc rfl (zc47 h)
set_option maxRecDepth 100000 in
theorem zx48 {k : Nat} (h : ∀ q ∈ zord, k ≠ q) : hc48.1 k = none := put_nn rfl (h 10000 zm10000) (zx47 h)
set_option maxRecDepth 100000 in
theorem zc49 {c : Nat} (h : 21 ≤ c) : hc49.2.1 c = 1 := add_cc rfl (show c ≠ 20 by omega) (zc48 h)
set_option maxRecDepth 100000 in
theorem zx49 {k : Nat} (h : ∀ q ∈ zord, k ≠ q) : hc49.1 k = none := add_nn rfl (h 20014 zm20014) (zx48 h)
set_option maxRecDepth 100000 in
theorem zc50 {c : Nat} (h : 21 ≤ c) : hc50.2.1 c = 1 := put_cc rfl (zc49 h)
set_option maxRecDepth 100000 in
theorem zx50 {k : Nat} (h : ∀ q ∈ zord, k ≠ q) : hc50.1 k = none := put_nn rfl (h 10000 zm10000) (zx49 h)
set_option maxRecDepth 100000 in
theorem zc51 {c : Nat} (h : 21 ≤ c) : hc51.2.1 c = 1 := add_cc rfl (show c ≠ 6 by omega) (zc50 h)
set_option maxRecDepth 100000 in
theorem zx51 {k : Nat} (h : ∀ q ∈ zord, k ≠ q) : hc51.1 k = none := add_nn rfl (h 6000 zm6000) (zx50 h)
set_option maxRecDepth 100000 in
theorem zc52 {c : Nat} (h : 21 ≤ c) : hc52.2.1 c = 1 := add_cc rfl (show c ≠ 20 by omega) (zc51 h)
set_option maxRecDepth 100000 in
theorem zx52 {k : Nat} (h : ∀ q ∈ zord, k ≠ q) : hc52.1 k = none := add_nn rfl (h 20015 zm20015) (zx51 h)
set_option maxRecDepth 100000 in
theorem zc53 {c : Nat} (h : 21 ≤ c) : hc53.2.1 c = 1 := put_cc rfl (zc52 h)
set_option maxRecDepth 100000 in
theorem zx53 {k : Nat} (h : ∀ q ∈ zord, k ≠ q) : hc53.1 k = none := put_nn rfl (h 6000 zm6000) (zx52 h)
set_option maxRecDepth 100000 in
theorem zc54 {c : Nat} (h : 21 ≤ c) : hc54.2.1 c = 1 := add_cc rfl (show c ≠ 20 by omega) (zc53 h)
set_option maxRecDepth 100000 in
theorem zx54 {k : Nat} (h : ∀ q ∈ zord, k ≠ q) : hc54.1 k = none := add_nn rfl (h 20016 zm20016) (zx53 h)
set_option maxRecDepth 100000 in
theorem zc55 {c : Nat} (h : 21 ≤ c) : hc55.2.1 c = 1 := put_cc rfl (zc54 h)
set_option maxRecDepth 100000 in
theorem zx55 {k : Nat} (h : ∀ q ∈ zord, k ≠ q) : hc55.1 k = none := put_nn rfl (h 6000 zm6000) (zx54 h)
set_option maxRecDepth 100000 in
theorem zc56 {c : Nat} (h : 21 ≤ c) : hc56.2.1 c = 1 := put_cc rfl (zc55 h)
set_option maxRecDepth 100000 in
theorem zx56 {k : Nat} (h : ∀ q ∈ zord, k ≠ q) : hc56.1 k = none := put_nn rfl (h 10000 zm10000) (zx55 h)
set_option maxRecDepth 100000 in
theorem zc57 {c : Nat} (h : 21 ≤ c) : hc57.2.1 c = 1 := add_cc rfl (show c ≠ 20 by omega) (zc56 h)
set_option maxRecDepth 100000 in
theorem zx57 {k : Nat} (h : ∀ q ∈ zord, k ≠ q) : hc57.1 k = none := add_nn rfl (h 20017 zm20017) (zx56 h)
set_option maxRecDepth 100000 in
theorem zc58 {c : Nat} (h : 21 ≤ c) : hc58.2.1 c = 1 := put_cc rfl (zc57 h)
set_option maxRecDepth 100000 in
theorem zx58 {k : Nat} (h : ∀ q ∈ zord, k ≠ q) : hc58.1 k = none := put_nn rfl (h 10000 zm10000) (zx57 h)
set_option maxRecDepth 100000 in
theorem zc59 {c : Nat} (h : 21 ≤ c) : hc59.2.1 c = 1 := add_cc rfl (show c ≠ 5 by omega) (zc58 h)
set_option maxRecDepth 100000 in
theorem zx59 {k : Nat} (h : ∀ q ∈ zord, k ≠ q) : hc59.1 k = none := add_nn rfl (h 5000 zm5000) (zx58 h)
set_option maxRecDepth 100000 in
theorem zc60 {c : Nat} (h : 21 ≤ c) : hc60.2.1 c = 1 := add_cc rfl (show c ≠ 20 by omega) (zc59 h)
set_option maxRecDepth 100000 in
theorem zx60 {k : Nat} (h : ∀ q ∈ zord, k ≠ q) : hc60.1 k = none := add_nn rfl (h 20018 zm20018) (zx59 h)
set_option maxRecDepth 100000 in
theorem zc61 {c : Nat} (h : 21 ≤ c) : hc61.2.1 c = 1 := put_cc rfl (zc60 h)
set_option maxRecDepth 100000 in
theorem zx61 {k : Nat} (h : ∀ q ∈ zord, k ≠ q) : hc61.1 k = none := put_nn rfl (h 5000 zm5000) (zx60 h)
set_option maxRecDepth 100000 in
theorem zc62 {c : Nat} (h : 21 ≤ c) : hc62.2.1 c = 1 := add_cc rfl (show c ≠ 20 by omega) (zc61 h)
set_option maxRecDepth 100000 in
theorem zx62 {k : Nat} (h : ∀ q ∈ zord, k ≠ q) : hc62.1 k = none := add_nn rfl (h 20019 zm20019) (zx61 h)
set_option maxRecDepth 100000 in
theorem zc63 {c : Nat} (h : 21 ≤ c) : hc63.2.1 c = 1 := put_cc rfl (zc62 h)
set_option maxRecDepth 100000 in
theorem zx63 {k : Nat} (h : ∀ q ∈ zord, k ≠ q) : hc63.1 k = none := put_nn rfl (h 5000 zm5000) (zx62 h)
set_option maxRecDepth 100000 in
theorem zc64 {c : Nat} (h : 21 ≤ c) : hc64.2.1 c = 1 := put_cc rfl (zc63 h)
set_option maxRecDepth 100000 in
theorem zx64 {k : Nat} (h : ∀ q ∈ zord, k ≠ q) : hc64.1 k = none := put_nn rfl (h 20019 zm20019) (zx63 h)
set_option maxRecDepth 100000 in
theorem zc65 {c : Nat} (h : 21 ≤ c) : hc65.2.1 c = 1 := put_cc rfl (zc64 h)
set_option maxRecDepth 100000 in
theorem zx65 {k : Nat} (h : ∀ q ∈ zord, k ≠ q) : hc65.1 k = none := put_nn rfl (h 10000 zm10000) (zx64 h)
set_option maxRecDepth 100000 in
theorem zc66 {c : Nat} (h : 21 ≤ c) : hc66.2.1 c = 1 := add_cc rfl (show c ≠ 0 by omega) (zc65 h)
set_option maxRecDepth 100000 in
theorem zx66 {k : Nat} (h : ∀ q ∈ zord, k ≠ q) : hc66.1 k = none := add_nn rfl (h 0 zm0) (zx65 h)
set_option maxRecDepth 100000 in
theorem zc67 {c : Nat} (h : 21 ≤ c) : hc67.2.1 c = 1 := add_cc rfl (show c ≠ 20 by omega) (zc66 h)
set_option maxRecDepth 100000 in
theorem zx67 {k : Nat} (h : ∀ q ∈ zord, k ≠ q) : hc67.1 k = none := add_nn rfl (h 20020 zm20020) (zx66 h)
set_option maxRecDepth 100000 in
theorem zc68 {c : Nat} (h : 21 ≤ c) : hc68.2.1 c = 1 := put_cc rfl (zc67 h)
set_option maxRecDepth 100000 in
theorem zx68 {k : Nat} (h : ∀ q ∈ zord, k ≠ q) : hc68.1 k = none := put_nn rfl (h 0 zm0) (zx67 h)
set_option maxRecDepth 100000 in
theorem zc69 {c : Nat} (h : 21 ≤ c) : hc69.2.1 c = 1 := put_cc rfl (zc68 h)
set_option maxRecDepth 100000 in
theorem zx69 {k : Nat} (h : ∀ q ∈ zord, k ≠ q) : hc69.1 k = none := put_nn rfl (h 10000 zm10000) (zx68 h)
set_option maxRecDepth 100000 in
theorem zc70 {c : Nat} (h : 21 ≤ c) : hc70.2.1 c = 1 := add_cc rfl (show c ≠ 20 by omega) (zc69 h)
set_option maxRecDepth 100000 in
theorem zx70 {k : Nat} (h : ∀ q ∈ zord, k ≠ q) : hc70.1 k = none := add_nn rfl (h 20021 zm20021) (zx69 h)
set_option maxRecDepth 100000 in
theorem zc71 {c : Nat} (h : 21 ≤ c) : hc71.2.1 c = 1 := put_cc rfl (zc70 h)
set_option maxRecDepth 100000 in
theorem zx71 {k : Nat} (h : ∀ q ∈ zord, k ≠ q) : hc71.1 k = none := put_nn rfl (h 10000 zm10000) (zx70 h)
set_option maxRecDepth 100000 in
theorem zc72 {c : Nat} (h : 21 ≤ c) : hc72.2.1 c = 1 := add_cc rfl (show c ≠ 8 by omega) (zc71 h)
set_option maxRecDepth 100000 in
theorem zx72 {k : Nat} (h : ∀ q ∈ zord, k ≠ q) : hc72.1 k = none := add_nn rfl (h 8000 zm8000) (zx71 h)
set_option maxRecDepth 100000 in
theorem zc73 {c : Nat} (h : 21 ≤ c) : hc73.2.1 c = 1 := put_cc rfl (zc72 h)
set_option maxRecDepth 100000 in
theorem zx73 {k : Nat} (h : ∀ q ∈ zord, k ≠ q) : hc73.1 k = none := put_nn rfl (h 8000 zm8000) (zx72 h)
set_option maxRecDepth 100000 in
theorem zc74 {c : Nat} (h : 21 ≤ c) : hc74.2.1 c = 1 := add_cc rfl (show c ≠ 20 by omega) (zc73 h)
set_option maxRecDepth 100000 in
theorem zx74 {k : Nat} (h : ∀ q ∈ zord, k ≠ q) : hc74.1 k = none := add_nn rfl (h 20022 zm20022) (zx73 h)
set_option maxRecDepth 100000 in
theorem zc75 {c : Nat} (h : 21 ≤ c) : hc75.2.1 c = 1 := put_cc rfl (zc74 h)
set_option maxRecDepth 100000 in
theorem zx75 {k : Nat} (h : ∀ q ∈ zord, k ≠ q) : hc75.1 k = none := put_nn rfl (h 8000 zm8000) (zx74 h)
set_option maxRecDepth 100000 in
theorem zc76 {c : Nat} (h : 21 ≤ c) : hc76.2.1 c = 1 := put_cc rfl (zc75 h)
set_option maxRecDepth 100000 in
theorem zx76 {k : Nat} (h : ∀ q ∈ zord, k ≠ q) : hc76.1 k = none := put_nn rfl (h 20021 zm20021) (zx75 h)
set_option maxRecDepth 100000 in
theorem zc77 {c : Nat} (h : 21 ≤ c) : hc77.2.1 c = 1 := add_cc rfl (show c ≠ 8 by omega) (zc76 h)
set_option maxRecDepth 100000 in
theorem zx77 {k : Nat} (h : ∀ q ∈ zord, k ≠ q) : hc77.1 k = none := add_nn rfl (h 8001 zm8001) (zx76 h)
set_option maxRecDepth 100000 in
theorem zc78 {c : Nat} (h : 21 ≤ c) : hc78.2.1 c = 1 := put_cc rfl (zc77 h)
set_option maxRecDepth 100000 in
theorem zx78 {k : Nat} (h : ∀ q ∈ zord, k ≠ q) : hc78.1 k = none := put_nn rfl (h 8001 zm8001) (zx77 h)
set_option maxRecDepth 100000 in
theorem zc79 {c : Nat} (h : 21 ≤ c) : hc79.2.1 c = 1 := add_cc rfl (show c ≠ 20 by omega) (zc78 h)
set_option maxRecDepth 100000 in
theorem zx79 {k : Nat} (h : ∀ q ∈ zord, k ≠ q) : hc79.1 k = none := add_nn rfl (h 20023 zm20023) (zx78 h)
set_option maxRecDepth 100000 in
theorem zc80 {c : Nat} (h : 21 ≤ c) : hc80.2.1 c = 1 := put_cc rfl (zc79 h)
set_option maxRecDepth 100000 in
theorem zx80 {k : Nat} (h : ∀ q ∈ zord, k ≠ q) : hc80.1 k = none := put_nn rfl (h 8001 zm8001) (zx79 h)
set_option maxRecDepth 100000 in
theorem zc81 {c : Nat} (h : 21 ≤ c) : hc81.2.1 c = 1 := put_cc rfl (zc80 h)
set_option maxRecDepth 100000 in
theorem zx81 {k : Nat} (h : ∀ q ∈ zord, k ≠ q) : hc81.1 k = none := put_nn rfl (h 20021 zm20021) (zx80 h)
set_option maxRecDepth 100000 in
theorem zc82 {c : Nat} (h : 21 ≤ c) : hc82.2.1 c = 1 := add_cc rfl (show c ≠ 8 by omega) (zc81 h)
set_option maxRecDepth 100000 in
theorem zx82 {k : Nat} (h : ∀ q ∈ zord, k ≠ q) : hc82.1 k = none := add_nn rfl (h 8002 zm8002) (zx81 h)
set_option maxRecDepth 100000 in
theorem zc83 {c : Nat} (h : 21 ≤ c) : hc83.2.1 c = 1 := put_cc rfl (zc82 h)
set_option maxRecDepth 100000 in
theorem zx83 {k : Nat} (h : ∀ q ∈ zord, k ≠ q) : hc83.1 k = none := put_nn rfl (h 8002 zm8002) (zx82 h)
set_option maxRecDepth 100000 in
theorem zc84 {c : Nat} (h : 21 ≤ c) : hc84.2.1 c = 1 := add_cc rfl (show c ≠ 20 by omega) (zc83 h)
set_option maxRecDepth 100000 in
theorem zx84 {k : Nat} (h : ∀ q ∈ zord, k ≠ q) : hc84.1 k = none := add_nn rfl (h 20024 zm20024) (zx83 h)
set_option maxRecDepth 100000 in
theorem zc85 {c : Nat} (h : 21 ≤ c) : hc85.2.1 c = 1 := put_cc rfl (zc84 h)
set_option maxRecDepth 100000 in
theorem zx85 {k : Nat} (h : ∀ q ∈ zord, k ≠ q) : hc85.1 k = none := put_nn rfl (h 8002 zm8002) (zx84 h)
set_option maxRecDepth 100000 in
theorem zc86 {c : Nat} (h : 21 ≤ c) : hc86.2.1 c = 1 := put_cc rfl (zc85 h)
set_option maxRecDepth 100000 in
theorem zx86 {k : Nat} (h : ∀ q ∈ zord, k ≠ q) : hc86.1 k = none := put_nn rfl (h 20021 zm20021) (zx85 h)
set_option maxRecDepth 100000 in
theorem zc87 {c : Nat} (h : 21 ≤ c) : hc87.2.1 c = 1 := add_cc rfl (show c ≠ 8 by omega) (zc86 h)
set_option maxRecDepth 100000 in
theorem zx87 {k : Nat} (h : ∀ q ∈ zord, k ≠ q) : hc87.1 k = none := add_nn rfl (h 8003 zm8003) (zx86 h)
set_option maxRecDepth 100000 in
theorem zc88 {c : Nat} (h : 21 ≤ c) : hc88.2.1 c = 1 := put_cc rfl (zc87 h)
set_option maxRecDepth 100000 in
theorem zx88 {k : Nat} (h : ∀ q ∈ zord, k ≠ q) : hc88.1 k = none := put_nn rfl (h 8003 zm8003) (zx87 h)
set_option maxRecDepth 100000 in
theorem zc89 {c : Nat} (h : 21 ≤ c) : hc89.2.1 c = 1 := add_cc rfl (show c ≠ 20 by omega) (zc88 h)
set_option maxRecDepth 100000 in
theorem zx89 {k : Nat} (h : ∀ q ∈ zord, k ≠ q) : hc89.1 k = none := add_nn rfl (h 20025 zm20025) (zx88 h)
set_option maxRecDepth 100000 in
theorem zc90 {c : Nat} (h : 21 ≤ c) : hc90.2.1 c = 1 := put_cc rfl (zc89 h)
set_option maxRecDepth 100000 in
theorem zx90 {k : Nat} (h : ∀ q ∈ zord, k ≠ q) : hc90.1 k = none := put_nn rfl (h 8003 zm8003) (zx89 h)
set_option maxRecDepth 100000 in
theorem zc91 {c : Nat} (h : 21 ≤ c) : hc91.2.1 c = 1 := put_cc rfl (zc90 h)
set_option maxRecDepth 100000 in
theorem zx91 {k : Nat} (h : ∀ q ∈ zord, k ≠ q) : hc91.1 k = none := put_nn rfl (h 20021 zm20021) (zx90 h)
set_option maxRecDepth 100000 in
theorem zc92 {c : Nat} (h : 21 ≤ c) : hc92.2.1 c = 1 := add_cc rfl (show c ≠ 8 by omega) (zc91 h)
set_option maxRecDepth 100000 in
theorem zx92 {k : Nat} (h : ∀ q ∈ zord, k ≠ q) : hc92.1 k = none := add_nn rfl (h 8004 zm8004) (zx91 h)
set_option maxRecDepth 100000 in
theorem zc93 {c : Nat} (h : 21 ≤ c) : hc93.2.1 c = 1 := put_cc rfl (zc92 h)
set_option maxRecDepth 100000 in
theorem zx93 {k : Nat} (h : ∀ q ∈ zord, k ≠ q) : hc93.1 k = none := put_nn rfl (h 8004 zm8004) (zx92 h)
set_option maxRecDepth 100000 in
theorem zc94 {c : Nat} (h : 21 ≤ c) : hc94.2.1 c = 1 := add_cc rfl (show c ≠ 20 by omega) (zc93 h)
set_option maxRecDepth 100000 in
theorem zx94 {k : Nat} (h : ∀ q ∈ zord, k ≠ q) : hc94.1 k = none := add_nn rfl (h 20026 zm20026) (zx93 h)
set_option maxRecDepth 100000 in
theorem zc95 {c : Nat} (h : 21 ≤ c) : hc95.2.1 c = 1 := put_cc rfl (zc94 h)
set_option maxRecDepth 100000 in
theorem zx95 {k : Nat} (h : ∀ q ∈ zord, k ≠ q) : hc95.1 k = none := put_nn rfl (h 8004 zm8004) (zx94 h)
set_option maxRecDepth 100000 in
theorem zc96 {c : Nat} (h : 21 ≤ c) : hc96.2.1 c = 1 := put_cc rfl (zc95 h)
set_option maxRecDepth 100000 in
theorem zx96 {k : Nat} (h : ∀ q ∈ zord, k ≠ q) : hc96.1 k = none := put_nn rfl (h 20021 zm20021) (zx95 h)
set_option maxRecDepth 100000 in
theorem zc97 {c : Nat} (h : 21 ≤ c) : hc97.2.1 c = 1 := add_cc rfl (show c ≠ 8 by omega) (zc96 h)
set_option maxRecDepth 100000 in
theorem zx97 {k : Nat} (h : ∀ q ∈ zord, k ≠ q) : hc97.1 k = none := add_nn rfl (h 8005 zm8005) (zx96 h)
set_option maxRecDepth 100000 in
theorem zc98 {c : Nat} (h : 21 ≤ c) : hc98.2.1 c = 1 := put_cc rfl (zc97 h)
set_option maxRecDepth 100000 in
theorem zx98 {k : Nat} (h : ∀ q ∈ zord, k ≠ q) : hc98.1 k = none := put_nn rfl (h 8005 zm8005) (zx97 h)
set_option maxRecDepth 100000 in
theorem zc99 {c : Nat} (h : 21 ≤ c) : hc99.2.1 c = 1 := add_cc rfl (show c ≠ 20 by omega) (zc98 h)
set_option maxRecDepth 100000 in
theorem zx99 {k : Nat} (h : ∀ q ∈ zord, k ≠ q) : hc99.1 k = none := add_nn rfl (h 20027 zm20027) (zx98 h)
set_option maxRecDepth 100000 in
theorem zc100 {c : Nat} (h : 21 ≤ c) : hc100.2.1 c = 1 := put_cc rfl (zc99 h)
set_option maxRecDepth 100000 in
theorem zx100 {k : Nat} (h : ∀ q ∈ zord, k ≠ q) : hc100.1 k = none := put_nn rfl (h 8005 zm8005) (zx99 h)
set_option maxRecDepth 100000 in
theorem zc101 {c : Nat} (h : 21 ≤ c) : hc101.2.1 c = 1 := put_cc rfl (zc100 h)
set_option maxRecDepth 100000 in
theorem zx101 {k : Nat} (h : ∀ q ∈ zord, k ≠ q) : hc101.1 k = none := put_nn rfl (h 20021 zm20021) (zx100 h)
set_option maxRecDepth 100000 in
theorem zc102 {c : Nat} (h : 21 ≤ c) : hc102.2.1 c = 1 := add_cc rfl (show c ≠ 11 by omega) (zc101 h)
set_option maxRecDepth 100000 in
theorem zx102 {k : Nat} (h : ∀ q ∈ zord, k ≠ q) : hc102.1 k = none := add_nn rfl (h 11000 zm11000) (zx101 h)
set_option maxRecDepth 100000 in
theorem zc103 {c : Nat} (h : 21 ≤ c) : hc103.2.1 c = 1 := put_cc rfl (zc102 h)
set_option maxRecDepth 100000 in
theorem zx103 {k : Nat} (h : ∀ q ∈ zord, k ≠ q) : hc103.1 k = none := put_nn rfl (h 11000 zm11000) (zx102 h)
set_option maxRecDepth 100000 in
theorem zc104 {c : Nat} (h : 21 ≤ c) : hc104.2.1 c = 1 := put_cc rfl (zc103 h)
set_option maxRecDepth 100000 in
theorem zx104 {k : Nat} (h : ∀ q ∈ zord, k ≠ q) : hc104.1 k = none := put_nn rfl (h 11000 zm11000) (zx103 h)
set_option maxRecDepth 100000 in
theorem zc105 {c : Nat} (h : 21 ≤ c) : hc105.2.1 c = 1 := add_cc rfl (show c ≠ 20 by omega) (zc104 h)
set_option maxRecDepth 100000 in
theorem zx105 {k : Nat} (h : ∀ q ∈ zord, k ≠ q) : hc105.1 k = none := add_nn rfl (h 20028 zm20028) (zx104 h)
set_option maxRecDepth 100000 in
theorem zc106 {c : Nat} (h : 21 ≤ c) : hc106.2.1 c = 1 := put_cc rfl (zc105 h)
set_option maxRecDepth 100000 in
theorem zx106 {k : Nat} (h : ∀ q ∈ zord, k ≠ q) : hc106.1 k = none := put_nn rfl (h 20028 zm20028) (zx105 h)
set_option maxRecDepth 100000 in
theorem zc107 {c : Nat} (h : 21 ≤ c) : hc107.2.1 c = 1 := put_cc rfl (zc106 h)
set_option maxRecDepth 100000 in
theorem zx107 {k : Nat} (h : ∀ q ∈ zord, k ≠ q) : hc107.1 k = none := put_nn rfl (h 20028 zm20028) (zx106 h)
set_option maxRecDepth 100000 in
theorem zc108 {c : Nat} (h : 21 ≤ c) : hc108.2.1 c = 1 := put_cc rfl (zc107 h)
set_option maxRecDepth 100000 in
theorem zx108 {k : Nat} (h : ∀ q ∈ zord, k ≠ q) : hc108.1 k = none := put_nn rfl (h 20028 zm20028) (zx107 h)
set_option maxRecDepth 100000 in
theorem zc109 {c : Nat} (h : 21 ≤ c) : hc109.2.1 c = 1 := put_cc rfl (zc108 h)
set_option maxRecDepth 100000 in
theorem zx109 {k : Nat} (h : ∀ q ∈ zord, k ≠ q) : hc109.1 k = none := put_nn rfl (h 20028 zm20028) (zx108 h)
set_option maxRecDepth 100000 in
theorem zc110 {c : Nat} (h : 21 ≤ c) : hc110.2.1 c = 1 := put_cc rfl (zc109 h)
set_option maxRecDepth 100000 in
theorem zx110 {k : Nat} (h : ∀ q ∈ zord, k ≠ q) : hc110.1 k = none := put_nn rfl (h 20028 zm20028) (zx109 h)
set_option maxRecDepth 100000 in
theorem zc111 {c : Nat} (h : 21 ≤ c) : hc111.2.1 c = 1 := put_cc rfl (zc110 h)
set_option maxRecDepth 100000 in
theorem zx111 {k : Nat} (h : ∀ q ∈ zord, k ≠ q) : hc111.1 k = none := put_nn rfl (h 20028 zm20028) (zx110 h)
set_option maxRecDepth 100000 in
theorem zc112 {c : Nat} (h : 21 ≤ c) : hc112.2.1 c = 1 := put_cc rfl (zc111 h)
set_option maxRecDepth 100000 in
theorem zx112 {k : Nat} (h : ∀ q ∈ zord, k ≠ q) : hc112.1 k = none := put_nn rfl (h 20028 zm20028) (zx111 h)
set_option maxRecDepth 100000 in
theorem zc113 {c : Nat} (h : 21 ≤ c) : hc113.2.1 c = 1 := put_cc rfl (zc112 h)
set_option maxRecDepth 100000 in
theorem zx113 {k : Nat} (h : ∀ q ∈ zord, k ≠ q) : hc113.1 k = none := put_nn rfl (h 20028 zm20028) (zx112 h)
set_option maxRecDepth 100000 in
theorem zc114 {c : Nat} (h : 21 ≤ c) : hc114.2.1 c = 1 := put_cc rfl (zc113 h)
set_option maxRecDepth 100000 in
theorem zx114 {k : Nat} (h : ∀ q ∈ zord, k ≠ q) : hc114.1 k = none := put_nn rfl (h 20028 zm20028) (zx113 h)
set_option maxRecDepth 100000 in
theorem zc115 {c : Nat} (h : 21 ≤ c) : hc115.2.1 c = 1 := put_cc rfl (zc114 h)
set_option maxRecDepth 100000 in
theorem zx115 {k : Nat} (h : ∀ q ∈ zord, k ≠ q) : hc115.1 k = none := put_nn rfl (h 20028 zm20028) (zx114 h)
set_option maxRecDepth 100000 in
theorem zc116 {c : Nat} (h : 21 ≤ c) : hc116.2.1 c = 1 := put_cc rfl (zc115 h)
set_option maxRecDepth 100000 in
theorem zx116 {k : Nat} (h : ∀ q ∈ zord, k ≠ q) : hc116.1 k = none := put_nn rfl (h 20028 zm20028) (zx115 h)
set_option maxRecDepth 100000 in
theorem zc117 {c : Nat} (h : 21 ≤ c) : hc117.2.1 c = 1 := put_cc rfl (zc116 h)
set_option maxRecDepth 100000 in
theorem zx117 {k : Nat} (h : ∀ q ∈ zord, k ≠ q) : hc117.1 k = none := put_nn rfl (h 20028 zm20028) (zx116 h)
set_option maxRecDepth 100000 in
theorem zc118 {c : Nat} (h : 21 ≤ c) : hc118.2.1 c = 1 := put_cc rfl (zc117 h)
set_option maxRecDepth 100000 in
theorem zx118 {k : Nat} (h : ∀ q ∈ zord, k ≠ q) : hc118.1 k = none := put_nn rfl (h 20028 zm20028) (zx117 h)
set_option maxRecDepth 100000 in
theorem zc119 {c : Nat} (h : 21 ≤ c) : hc119.2.1 c = 1 := put_cc rfl (zc118 h)
set_option maxRecDepth 100000 in
theorem zx119 {k : Nat} (h : ∀ q ∈ zord, k ≠ q) : hc119.1 k = none := put_nn rfl (h 20028 zm20028) (zx118 h)
set_option maxRecDepth 100000 in
theorem zc120 {c : Nat} (h : 21 ≤ c) : hc120.2.1 c = 1 := put_cc rfl (zc119 h)
set_option maxRecDepth 100000 in
theorem zx120 {k : Nat} (h : ∀ q ∈ zord, k ≠ q) : hc120.1 k = none := put_nn rfl (h 20028 zm20028) (zx119 h)
set_option maxRecDepth 100000 in
theorem zc121 {c : Nat} (h : 21 ≤ c) : hc121.2.1 c = 1 := put_cc rfl (zc120 h)
set_option maxRecDepth 100000 in
theorem zx121 {k : Nat} (h : ∀ q ∈ zord, k ≠ q) : hc121.1 k = none := put_nn rfl (h 20028 zm20028) (zx120 h)
set_option maxRecDepth 100000 in
theorem zc122 {c : Nat} (h : 21 ≤ c) : hc122.2.1 c = 1 := put_cc rfl (zc121 h)
set_option maxRecDepth 100000 in
theorem zx122 {k : Nat} (h : ∀ q ∈ zord, k ≠ q) : hc122.1 k = none := put_nn rfl (h 11000 zm11000) (zx121 h)
set_option maxRecDepth 100000 in
theorem zc123 {c : Nat} (h : 21 ≤ c) : hc123.2.1 c = 1 := add_cc rfl (show c ≠ 20 by omega) (zc122 h)
set_option maxRecDepth 100000 in
theorem zx123 {k : Nat} (h : ∀ q ∈ zord, k ≠ q) : hc123.1 k = none := add_nn rfl (h 20029 zm20029) (zx122 h)
set_option maxRecDepth 100000 in
theorem zc124 {c : Nat} (h : 21 ≤ c) : hc124.2.1 c = 1 := put_cc rfl (zc123 h)
set_option maxRecDepth 100000 in
theorem zx124 {k : Nat} (h : ∀ q ∈ zord, k ≠ q) : hc124.1 k = none := put_nn rfl (h 11000 zm11000) (zx123 h)
set_option maxRecDepth 100000 in
theorem zc125 {c : Nat} (h : 21 ≤ c) : hc125.2.1 c = 1 := add_cc rfl (show c ≠ 20 by omega) (zc124 h)
set_option maxRecDepth 100000 in
theorem zx125 {k : Nat} (h : ∀ q ∈ zord, k ≠ q) : hc125.1 k = none := add_nn rfl (h 20030 zm20030) (zx124 h)
set_option maxRecDepth 100000 in
theorem zc126 {c : Nat} (h : 21 ≤ c) : hc126.2.1 c = 1 := put_cc rfl (zc125 h)
set_option maxRecDepth 100000 in
theorem zx126 {k : Nat} (h : ∀ q ∈ zord, k ≠ q) : hc126.1 k = none := put_nn rfl (h 11000 zm11000) (zx125 h)
set_option maxRecDepth 100000 in
theorem zc127 {c : Nat} (h : 21 ≤ c) : hc127.2.1 c = 1 := add_cc rfl (show c ≠ 20 by omega) (zc126 h)
set_option maxRecDepth 100000 in
theorem zx127 {k : Nat} (h : ∀ q ∈ zord, k ≠ q) : hc127.1 k = none := add_nn rfl (h 20031 zm20031) (zx126 h)
set_option maxRecDepth 100000 in
theorem zc128 {c : Nat} (h : 21 ≤ c) : hc128.2.1 c = 1 := put_cc rfl (zc127 h)
set_option maxRecDepth 100000 in
theorem zx128 {k : Nat} (h : ∀ q ∈ zord, k ≠ q) : hc128.1 k = none := put_nn rfl (h 11000 zm11000) (zx127 h)
set_option maxRecDepth 100000 in
theorem zc129 {c : Nat} (h : 21 ≤ c) : hc129.2.1 c = 1 := add_cc rfl (show c ≠ 20 by omega) (zc128 h)
set_option maxRecDepth 100000 in
theorem zx129 {k : Nat} (h : ∀ q ∈ zord, k ≠ q) : hc129.1 k = none := add_nn rfl (h 20032 zm20032) (zx128 h)
set_option maxRecDepth 100000 in
theorem zc130 {c : Nat} (h : 21 ≤ c) : hc130.2.1 c = 1 := put_cc rfl (zc129 h)
set_option maxRecDepth 100000 in
theorem zx130 {k : Nat} (h : ∀ q ∈ zord, k ≠ q) : hc130.1 k = none := put_nn rfl (h 11000 zm11000) (zx129 h)
set_option maxRecDepth 100000 in
theorem zc131 {c : Nat} (h : 21 ≤ c) : hc131.2.1 c = 1 := add_cc rfl (show c ≠ 20 by omega) (zc130 h)
set_option maxRecDepth 100000 in
theorem zx131 {k : Nat} (h : ∀ q ∈ zord, k ≠ q) : hc131.1 k = none := add_nn rfl (h 20033 zm20033) (zx130 h)
set_option maxRecDepth 100000 in
theorem zc132 {c : Nat} (h : 21 ≤ c) : hc132.2.1 c = 1 := put_cc rfl (zc131 h)
set_option maxRecDepth 100000 in
theorem zx132 {k : Nat} (h : ∀ q ∈ zord, k ≠ q) : hc132.1 k = none := put_nn rfl (h 11000 zm11000) (zx131 h)
set_option maxRecDepth 100000 in
theorem zc133 {c : Nat} (h : 21 ≤ c) : hc133.2.1 c = 1 := add_cc rfl (show c ≠ 20 by omega) (zc132 h)
set_option maxRecDepth 100000 in
theorem zx133 {k : Nat} (h : ∀ q ∈ zord, k ≠ q) : hc133.1 k = none := add_nn rfl (h 20034 zm20034) (zx132 h)
set_option maxRecDepth 100000 in
theorem zc134 {c : Nat} (h : 21 ≤ c) : hc134.2.1 c = 1 := put_cc rfl (zc133 h)
set_option maxRecDepth 100000 in
theorem zx134 {k : Nat} (h : ∀ q ∈ zord, k ≠ q) : hc134.1 k = none := put_nn rfl (h 11000 zm11000) (zx133 h)
set_option maxRecDepth 100000 in
theorem zc135 {c : Nat} (h : 21 ≤ c) : hc135.2.1 c = 1 := add_cc rfl (show c ≠ 20 by omega) (zc134 h)
set_option maxRecDepth 100000 in
theorem zx135 {k : Nat} (h : ∀ q ∈ zord, k ≠ q) : hc135.1 k = none := add_nn rfl (h 20035 zm20035) (zx134 h)
set_option maxRecDepth 100000 in
theorem zc136 {c : Nat} (h : 21 ≤ c) : hc136.2.1 c = 1 := put_cc rfl (zc135 h)
set_option maxRecDepth 100000 in
theorem zx136 {k : Nat} (h : ∀ q ∈ zord, k ≠ q) : hc136.1 k = none := put_nn rfl (h 11000 zm11000) (zx135 h)
set_option maxRecDepth 100000 in
theorem zc137 {c : Nat} (h : 21 ≤ c) : hc137.2.1 c = 1 := add_cc rfl (show c ≠ 20 by omega) (zc136 h)
set_option maxRecDepth 100000 in
theorem zx137 {k : Nat} (h : ∀ q ∈ zord, k ≠ q) : hc137.1 k = none := add_nn rfl (h 20036 zm20036) (zx136 h)
set_option maxRecDepth 100000 in
theorem zc138 {c : Nat} (h : 21 ≤ c) : hc138.2.1 c = 1 := put_cc rfl (zc137 h)
set_option maxRecDepth 100000 in
theorem zx138 {k : Nat} (h : ∀ q ∈ zord, k ≠ q) : hc138.1 k = none := put_nn rfl (h 11000 zm11000) (zx137 h)
set_option maxRecDepth 100000 in
theorem zc139 {c : Nat} (h : 21 ≤ c) : hc139.2.1 c = 1 := add_cc rfl (show c ≠ 20 by omega) (zc138 h)
set_option maxRecDepth 100000 in
theorem zx139 {k : Nat} (h : ∀ q ∈ zord, k ≠ q) : hc139.1 k = none := add_nn rfl (h 20037 zm20037) (zx138 h)
set_option maxRecDepth 100000 in
theorem zc140 {c : Nat} (h : 21 ≤ c) : hc140.2.1 c = 1 := put_cc rfl (zc139 h)
set_option maxRecDepth 100000 in
theorem zx140 {k : Nat} (h : ∀ q ∈ zord, k ≠ q) : hc140.1 k = none := put_nn rfl (h 11000 zm11000) (zx139 h)
set_option maxRecDepth 100000 in
theorem zc141 {c : Nat} (h : 21 ≤ c) : hc141.2.1 c = 1 := add_cc rfl (show c ≠ 20 by omega) (zc140 h)
set_option maxRecDepth 100000 in
theorem zx141 {k : Nat} (h : ∀ q ∈ zord, k ≠ q) : hc141.1 k = none := add_nn rfl (h 20038 zm20038) (zx140 h)
set_option maxRecDepth 100000 in
theorem zc142 {c : Nat} (h : 21 ≤ c) : hc142.2.1 c = 1 := put_cc rfl (zc141 h)
set_option maxRecDepth 100000 in
theorem zx142 {k : Nat} (h : ∀ q ∈ zord, k ≠ q) : hc142.1 k = none := put_nn rfl (h 11000 zm11000) (zx141 h)
set_option maxRecDepth 100000 in
theorem zc143 {c : Nat} (h : 21 ≤ c) : hc143.2.1 c = 1 := add_cc rfl (show c ≠ 20 by omega) (zc142 h)
set_option maxRecDepth 100000 in
theorem zx143 {k : Nat} (h : ∀ q ∈ zord, k ≠ q) : hc143.1 k = none := add_nn rfl (h 20039 zm20039) (zx142 h)
set_option maxRecDepth 100000 in
theorem zc144 {c : Nat} (h : 21 ≤ c) : hc144.2.1 c = 1 := put_cc rfl (zc143 h)
set_option maxRecDepth 100000 in
theorem zx144 {k : Nat} (h : ∀ q ∈ zord, k ≠ q) : hc144.1 k = none := put_nn rfl (h 20039 zm20039) (zx143 h)
set_option maxRecDepth 100000 in
theorem zc145 {c : Nat} (h : 21 ≤ c) : hc145.2.1 c = 1 := put_cc rfl (zc144 h)
set_option maxRecDepth 100000 in
theorem zx145 {k : Nat} (h : ∀ q ∈ zord, k ≠ q) : hc145.1 k = none := put_nn rfl (h 20039 zm20039) (zx144 h)
set_option maxRecDepth 100000 in
theorem zc146 {c : Nat} (h : 21 ≤ c) : hc146.2.1 c = 1 := put_cc rfl (zc145 h)
set_option maxRecDepth 100000 in
theorem zx146 {k : Nat} (h : ∀ q ∈ zord, k ≠ q) : hc146.1 k = none := put_nn rfl (h 11000 zm11000) (zx145 h)
set_option maxRecDepth 100000 in
theorem zc147 {c : Nat} (h : 21 ≤ c) : hc147.2.1 c = 1 := add_cc rfl (show c ≠ 20 by omega) (zc146 h)
set_option maxRecDepth 100000 in
theorem zx147 {k : Nat} (h : ∀ q ∈ zord, k ≠ q) : hc147.1 k = none := add_nn rfl (h 20040 zm20040) (zx146 h)
set_option maxRecDepth 100000 in
theorem zc148 {c : Nat} (h : 21 ≤ c) : hc148.2.1 c = 1 := put_cc rfl (zc147 h)
set_option maxRecDepth 100000 in
theorem zx148 {k : Nat} (h : ∀ q ∈ zord, k ≠ q) : hc148.1 k = none := put_nn rfl (h 20040 zm20040) (zx147 h)
set_option maxRecDepth 100000 in
theorem zc149 {c : Nat} (h : 21 ≤ c) : hc149.2.1 c = 1 := put_cc rfl (zc148 h)
set_option maxRecDepth 100000 in
theorem zx149 {k : Nat} (h : ∀ q ∈ zord, k ≠ q) : hc149.1 k = none := put_nn rfl (h 20040 zm20040) (zx148 h)
set_option maxRecDepth 100000 in
theorem zc150 {c : Nat} (h : 21 ≤ c) : hc150.2.1 c = 1 := put_cc rfl (zc149 h)
set_option maxRecDepth 100000 in
theorem zx150 {k : Nat} (h : ∀ q ∈ zord, k ≠ q) : hc150.1 k = none := put_nn rfl (h 11000 zm11000) (zx149 h)
set_option maxRecDepth 100000 in
theorem zc151 {c : Nat} (h : 21 ≤ c) : hc151.2.1 c = 1 := add_cc rfl (show c ≠ 20 by omega) (zc150 h)
set_option maxRecDepth 100000 in
theorem zx151 {k : Nat} (h : ∀ q ∈ zord, k ≠ q) : hc151.1 k = none := add_nn rfl (h 20041 zm20041) (zx150 h)
set_option maxRecDepth 100000 in
theorem zc152 {c : Nat} (h : 21 ≤ c) : hc152.2.1 c = 1 := put_cc rfl (zc151 h)
set_option maxRecDepth 100000 in
theorem zx152 {k : Nat} (h : ∀ q ∈ zord, k ≠ q) : hc152.1 k = none := put_nn rfl (h 11000 zm11000) (zx151 h)
set_option maxRecDepth 100000 in
theorem zc153 {c : Nat} (h : 21 ≤ c) : hc153.2.1 c = 1 := add_cc rfl (show c ≠ 20 by omega) (zc152 h)
set_option maxRecDepth 100000 in
theorem zx153 {k : Nat} (h : ∀ q ∈ zord, k ≠ q) : hc153.1 k = none := add_nn rfl (h 20042 zm20042) (zx152 h)
set_option maxRecDepth 100000 in
theorem zc154 {c : Nat} (h : 21 ≤ c) : hc154.2.1 c = 1 := put_cc rfl (zc153 h)
set_option maxRecDepth 100000 in
theorem zx154 {k : Nat} (h : ∀ q ∈ zord, k ≠ q) : hc154.1 k = none := put_nn rfl (h 11000 zm11000) (zx153 h)
set_option maxRecDepth 100000 in
theorem zc155 {c : Nat} (h : 21 ≤ c) : hc155.2.1 c = 1 := add_cc rfl (show c ≠ 20 by omega) (zc154 h)
set_option maxRecDepth 100000 in
theorem zx155 {k : Nat} (h : ∀ q ∈ zord, k ≠ q) : hc155.1 k = none := add_nn rfl (h 20043 zm20043) (zx154 h)
set_option maxRecDepth 100000 in
theorem zc156 {c : Nat} (h : 21 ≤ c) : hc156.2.1 c = 1 := put_cc rfl (zc155 h)
set_option maxRecDepth 100000 in
theorem zx156 {k : Nat} (h : ∀ q ∈ zord, k ≠ q) : hc156.1 k = none := put_nn rfl (h 20043 zm20043) (zx155 h)
set_option maxRecDepth 100000 in
theorem zc157 {c : Nat} (h : 21 ≤ c) : hc157.2.1 c = 1 := put_cc rfl (zc156 h)
set_option maxRecDepth 100000 in
theorem zx157 {k : Nat} (h : ∀ q ∈ zord, k ≠ q) : hc157.1 k = none := put_nn rfl (h 20043 zm20043) (zx156 h)
set_option maxRecDepth 100000 in
theorem zc158 {c : Nat} (h : 21 ≤ c) : hc158.2.1 c = 1 := put_cc rfl (zc157 h)
set_option maxRecDepth 100000 in
theorem zx158 {k : Nat} (h : ∀ q ∈ zord, k ≠ q) : hc158.1 k = none := put_nn rfl (h 11000 zm11000) (zx157 h)
set_option maxRecDepth 100000 in
theorem zc159 {c : Nat} (h : 21 ≤ c) : hc159.2.1 c = 1 := put_cc rfl (zc158 h)
set_option maxRecDepth 100000 in
theorem zx159 {k : Nat} (h : ∀ q ∈ zord, k ≠ q) : hc159.1 k = none := put_nn rfl (h 11000 zm11000) (zx158 h)
set_option maxRecDepth 100000 in
theorem zc160 {c : Nat} (h : 21 ≤ c) : hc160.2.1 c = 1 := add_cc rfl (show c ≠ 20 by omega) (zc159 h)
set_option maxRecDepth 100000 in
theorem zx160 {k : Nat} (h : ∀ q ∈ zord, k ≠ q) : hc160.1 k = none := add_nn rfl (h 20044 zm20044) (zx159 h)
set_option maxRecDepth 100000 in
theorem zc161 {c : Nat} (h : 21 ≤ c) : hc161.2.1 c = 1 := put_cc rfl (zc160 h)
set_option maxRecDepth 100000 in
theorem zx161 {k : Nat} (h : ∀ q ∈ zord, k ≠ q) : hc161.1 k = none := put_nn rfl (h 11000 zm11000) (zx160 h)
set_option maxRecDepth 100000 in
theorem zc162 {c : Nat} (h : 21 ≤ c) : hc162.2.1 c = 1 := add_cc rfl (show c ≠ 20 by omega) (zc161 h)
set_option maxRecDepth 100000 in
theorem zx162 {k : Nat} (h : ∀ q ∈ zord, k ≠ q) : hc162.1 k = none := add_nn rfl (h 20045 zm20045) (zx161 h)
set_option maxRecDepth 100000 in
theorem zc163 {c : Nat} (h : 21 ≤ c) : hc163.2.1 c = 1 := put_cc rfl (zc162 h)
set_option maxRecDepth 100000 in
theorem zx163 {k : Nat} (h : ∀ q ∈ zord, k ≠ q) : hc163.1 k = none := put_nn rfl (h 11000 zm11000) (zx162 h)
set_option maxRecDepth 100000 in
theorem zc164 {c : Nat} (h : 21 ≤ c) : hc164.2.1 c = 1 := add_cc rfl (show c ≠ 20 by omega) (zc163 h)
set_option maxRecDepth 100000 in
theorem zx164 {k : Nat} (h : ∀ q ∈ zord, k ≠ q) : hc164.1 k = none := add_nn rfl (h 20046 zm20046) (zx163 h)
set_option maxRecDepth 100000 in
theorem zc165 {c : Nat} (h : 21 ≤ c) : hc165.2.1 c = 1 := put_cc rfl (zc164 h)
set_option maxRecDepth 100000 in
theorem zx165 {k : Nat} (h : ∀ q ∈ zord, k ≠ q) : hc165.1 k = none := put_nn rfl (h 11000 zm11000) (zx164 h)
set_option maxRecDepth 100000 in
theorem zc166 {c : Nat} (h : 21 ≤ c) : hc166.2.1 c = 1 := add_cc rfl (show c ≠ 20 by omega) (zc165 h)
set_option maxRecDepth 100000 in
theorem zx166 {k : Nat} (h : ∀ q ∈ zord, k ≠ q) : hc166.1 k = none := add_nn rfl (h 20047 zm20047) (zx165 h)
set_option maxRecDepth 100000 in
theorem zc167 {c : Nat} (h : 21 ≤ c) : hc167.2.1 c = 1 := put_cc rfl (zc166 h)
set_option maxRecDepth 100000 in
theorem zx167 {k : Nat} (h : ∀ q ∈ zord, k ≠ q) : hc167.1 k = none := put_nn rfl (h 11000 zm11000) (zx166 h)
set_option maxRecDepth 100000 in
theorem zc168 {c : Nat} (h : 21 ≤ c) : hc168.2.1 c = 1 := add_cc rfl (show c ≠ 20 by omega) (zc167 h)
set_option maxRecDepth 100000 in
theorem zx168 {k : Nat} (h : ∀ q ∈ zord, k ≠ q) : hc168.1 k = none := add_nn rfl (h 20048 zm20048) (zx167 h)
set_option maxRecDepth 100000 in
theorem zc169 {c : Nat} (h : 21 ≤ c) : hc169.2.1 c = 1 := put_cc rfl (zc168 h)
set_option maxRecDepth 100000 in
theorem zx169 {k : Nat} (h : ∀ q ∈ zord, k ≠ q) : hc169.1 k = none := put_nn rfl (h 11000 zm11000) (zx168 h)
set_option maxRecDepth 100000 in
theorem zc170 {c : Nat} (h : 21 ≤ c) : hc170.2.1 c = 1 := add_cc rfl (show c ≠ 20 by omega) (zc169 h)
set_option maxRecDepth 100000 in
theorem zx170 {k : Nat} (h : ∀ q ∈ zord, k ≠ q) : hc170.1 k = none := add_nn rfl (h 20049 zm20049) (zx169 h)
set_option maxRecDepth 100000 in
theorem zc171 {c : Nat} (h : 21 ≤ c) : hc171.2.1 c = 1 := put_cc rfl (zc170 h)
set_option maxRecDepth 100000 in
theorem zx171 {k : Nat} (h : ∀ q ∈ zord, k ≠ q) : hc171.1 k = none := put_nn rfl (h 11000 zm11000) (zx170 h)
set_option maxRecDepth 100000 in
theorem zc172 {c : Nat} (h : 21 ≤ c) : hc172.2.1 c = 1 := add_cc rfl (show c ≠ 20 by omega) (zc171 h)
set_option maxRecDepth 100000 in
theorem zx172 {k : Nat} (h : ∀ q ∈ zord, k ≠ q) : hc172.1 k = none := add_nn rfl (h 20050 zm20050) (zx171 h)
set_option maxRecDepth 100000 in
theorem zc173 {c : Nat} (h : 21 ≤ c) : hc173.2.1 c = 1 := put_cc rfl (zc172 h)
set_option maxRecDepth 100000 in
theorem zx173 {k : Nat} (h : ∀ q ∈ zord, k ≠ q) : hc173.1 k = none := put_nn rfl (h 11000 zm11000) (zx172 h)
set_option maxRecDepth 100000 in
theorem zc174 {c : Nat} (h : 21 ≤ c) : hc174.2.1 c = 1 := add_cc rfl (show c ≠ 20 by omega) (zc173 h)
set_option maxRecDepth 100000 in
theorem zx174 {k : Nat} (h : ∀ q ∈ zord, k ≠ q) : hc174.1 k = none := add_nn rfl (h 20051 zm20051) (zx173 h)
set_option maxRecDepth 100000 in
theorem zc175 {c : Nat} (h : 21 ≤ c) : hc175.2.1 c = 1 := put_cc rfl (zc174 h)
set_option maxRecDepth 100000 in
theorem zx175 {k : Nat} (h : ∀ q ∈ zord, k ≠ q) : hc175.1 k = none := put_nn rfl (h 11000 zm11000) (zx174 h)
set_option maxRecDepth 100000 in
theorem zc176 {c : Nat} (h : 21 ≤ c) : hc176.2.1 c = 1 := add_cc rfl (show c ≠ 20 by omega) (zc175 h)
set_option maxRecDepth 100000 in
theorem zx176 {k : Nat} (h : ∀ q ∈ zord, k ≠ q) : hc176.1 k = none := add_nn rfl (h 20052 zm20052) (zx175 h)
set_option maxRecDepth 100000 in
theorem zc177 {c : Nat} (h : 21 ≤ c) : hc177.2.1 c = 1 := put_cc rfl (zc176 h)
set_option maxRecDepth 100000 in
theorem zx177 {k : Nat} (h : ∀ q ∈ zord, k ≠ q) : hc177.1 k = none := put_nn rfl (h 11000 zm11000) (zx176 h)
set_option maxRecDepth 100000 in
theorem zc178 {c : Nat} (h : 21 ≤ c) : hc178.2.1 c = 1 := add_cc rfl (show c ≠ 20 by omega) (zc177 h)
set_option maxRecDepth 100000 in
theorem zx178 {k : Nat} (h : ∀ q ∈ zord, k ≠ q) : hc178.1 k = none := add_nn rfl (h 20053 zm20053) (zx177 h)
set_option maxRecDepth 100000 in
theorem zc179 {c : Nat} (h : 21 ≤ c) : hc179.2.1 c = 1 := put_cc rfl (zc178 h)
set_option maxRecDepth 100000 in
theorem zx179 {k : Nat} (h : ∀ q ∈ zord, k ≠ q) : hc179.1 k = none := put_nn rfl (h 11000 zm11000) (zx178 h)
set_option maxRecDepth 100000 in
theorem zc180 {c : Nat} (h : 21 ≤ c) : hc180.2.1 c = 1 := put_cc rfl (zc179 h)
set_option maxRecDepth 100000 in
theorem zx180 {k : Nat} (h : ∀ q ∈ zord, k ≠ q) : hc180.1 k = none := put_nn rfl (h 11000 zm11000) (zx179 h)
set_option maxRecDepth 100000 in
theorem zc181 {c : Nat} (h : 21 ≤ c) : hc181.2.1 c = 1 := put_cc rfl (zc180 h)
set_option maxRecDepth 100000 in
theorem zx181 {k : Nat} (h : ∀ q ∈ zord, k ≠ q) : hc181.1 k = none := put_nn rfl (h 11000 zm11000) (zx180 h)
set_option maxRecDepth 100000 in
theorem zc182 {c : Nat} (h : 21 ≤ c) : hc182.2.1 c = 1 := put_cc rfl (zc181 h)
set_option maxRecDepth 100000 in
theorem zx182 {k : Nat} (h : ∀ q ∈ zord, k ≠ q) : hc182.1 k = none := put_nn rfl (h 11000 zm11000) (zx181 h)
set_option maxRecDepth 100000 in
theorem zc183 {c : Nat} (h : 21 ≤ c) : hc183.2.1 c = 1 := put_cc rfl (zc182 h)
set_option maxRecDepth 100000 in
theorem zx183 {k : Nat} (h : ∀ q ∈ zord, k ≠ q) : hc183.1 k = none := put_nn rfl (h 11000 zm11000) (zx182 h)
set_option maxRecDepth 100000 in
theorem zc184 {c : Nat} (h : 21 ≤ c) : hc184.2.1 c = 1 := add_cc rfl (show c ≠ 20 by omega) (zc183 h)
set_option maxRecDepth 100000 in
theorem zx184 {k : Nat} (h : ∀ q ∈ zord, k ≠ q) : hc184.1 k = none := add_nn rfl (h 20054 zm20054) (zx183 h)
set_option maxRecDepth 100000 in
theorem zc185 {c : Nat} (h : 21 ≤ c) : hc185.2.1 c = 1 := put_cc rfl (zc184 h)
set_option maxRecDepth 100000 in
theorem zx185 {k : Nat} (h : ∀ q ∈ zord, k ≠ q) : hc185.1 k = none := put_nn rfl (h 11000 zm11000) (zx184 h)
set_option maxRecDepth 100000 in
theorem zc186 {c : Nat} (h : 21 ≤ c) : hc186.2.1 c = 1 := put_cc rfl (zc185 h)
set_option maxRecDepth 100000 in
theorem zx186 {k : Nat} (h : ∀ q ∈ zord, k ≠ q) : hc186.1 k = none := put_nn rfl (h 11000 zm11000) (zx185 h)
set_option maxRecDepth 100000 in
theorem zc187 {c : Nat} (h : 21 ≤ c) : hc187.2.1 c = 1 := put_cc rfl (zc186 h)
set_option maxRecDepth 100000 in
theorem zx187 {k : Nat} (h : ∀ q ∈ zord, k ≠ q) : hc187.1 k = none := put_nn rfl (h 11000 zm11000) (zx186 h)
set_option maxRecDepth 100000 in
theorem zc188 {c : Nat} (h : 21 ≤ c) : hc188.2.1 c = 1 := put_cc rfl (zc187 h)
set_option maxRecDepth 100000 in
theorem zx188 {k : Nat} (h : ∀ q ∈ zord, k ≠ q) : hc188.1 k = none := put_nn rfl (h 11000 zm11000) (zx187 h)
set_option maxRecDepth 100000 in
theorem zc189 {c : Nat} (h : 21 ≤ c) : hc189.2.1 c = 1 := add_cc rfl (show c ≠ 20 by omega) (zc188 h)
set_option maxRecDepth 100000 in
theorem zx189 {k : Nat} (h : ∀ q ∈ zord, k ≠ q) : hc189.1 k = none := add_nn rfl (h 20055 zm20055) (zx188 h)
set_option maxRecDepth 100000 in
theorem zc190 {c : Nat} (h : 21 ≤ c) : hc190.2.1 c = 1 := put_cc rfl (zc189 h)
set_option maxRecDepth 100000 in
theorem zx190 {k : Nat} (h : ∀ q ∈ zord, k ≠ q) : hc190.1 k = none := put_nn rfl (h 11000 zm11000) (zx189 h)
set_option maxRecDepth 100000 in
theorem zc191 {c : Nat} (h : 21 ≤ c) : hc191.2.1 c = 1 := add_cc rfl (show c ≠ 20 by omega) (zc190 h)
set_option maxRecDepth 100000 in
theorem zx191 {k : Nat} (h : ∀ q ∈ zord, k ≠ q) : hc191.1 k = none := add_nn rfl (h 20056 zm20056) (zx190 h)
set_option maxRecDepth 100000 in
theorem zc192 {c : Nat} (h : 21 ≤ c) : hc192.2.1 c = 1 := put_cc rfl (zc191 h)
set_option maxRecDepth 100000 in
theorem zx192 {k : Nat} (h : ∀ q ∈ zord, k ≠ q) : hc192.1 k = none := put_nn rfl (h 11000 zm11000) (zx191 h)
set_option maxRecDepth 100000 in
theorem zc193 {c : Nat} (h : 21 ≤ c) : hc193.2.1 c = 1 := add_cc rfl (show c ≠ 20 by omega) (zc192 h)
set_option maxRecDepth 100000 in
theorem zx193 {k : Nat} (h : ∀ q ∈ zord, k ≠ q) : hc193.1 k = none := add_nn rfl (h 20057 zm20057) (zx192 h)
set_option maxRecDepth 100000 in
theorem zc194 {c : Nat} (h : 21 ≤ c) : hc194.2.1 c = 1 := put_cc rfl (zc193 h)
set_option maxRecDepth 100000 in
theorem zx194 {k : Nat} (h : ∀ q ∈ zord, k ≠ q) : hc194.1 k = none := put_nn rfl (h 11000 zm11000) (zx193 h)
set_option maxRecDepth 100000 in
theorem zc195 {c : Nat} (h : 21 ≤ c) : hc195.2.1 c = 1 := add_cc rfl (show c ≠ 20 by omega) (zc194 h)
set_option maxRecDepth 100000 in
theorem zx195 {k : Nat} (h : ∀ q ∈ zord, k ≠ q) : hc195.1 k = none := add_nn rfl (h 20058 zm20058) (zx194 h)
set_option maxRecDepth 100000 in
theorem zc196 {c : Nat} (h : 21 ≤ c) : hc196.2.1 c = 1 := put_cc rfl (zc195 h)
set_option maxRecDepth 100000 in
theorem zx196 {k : Nat} (h : ∀ q ∈ zord, k ≠ q) : hc196.1 k = none := put_nn rfl (h 11000 zm11000) (zx195 h)
set_option maxRecDepth 100000 in
theorem zc197 {c : Nat} (h : 21 ≤ c) : hc197.2.1 c = 1 := add_cc rfl (show c ≠ 20 by omega) (zc196 h)
set_option maxRecDepth 100000 in
theorem zx197 {k : Nat} (h : ∀ q ∈ zord, k ≠ q) : hc197.1 k = none := add_nn rfl (h 20059 zm20059) (zx196 h)
set_option maxRecDepth 100000 in
theorem zc198 {c : Nat} (h : 21 ≤ c) : hc198.2.1 c = 1 := put_cc rfl (zc197 h)
set_option maxRecDepth 100000 in
theorem zx198 {k : Nat} (h : ∀ q ∈ zord, k ≠ q) : hc198.1 k = none := put_nn rfl (h 11000 zm11000) (zx197 h)
set_option maxRecDepth 100000 in
theorem zc199 {c : Nat} (h : 21 ≤ c) : hc199.2.1 c = 1 := put_cc rfl (zc198 h)
set_option maxRecDepth 100000 in
theorem zx199 {k : Nat} (h : ∀ q ∈ zord, k ≠ q) : hc199.1 k = none := put_nn rfl (h 11000 zm11000) (zx198 h)
set_option maxRecDepth 100000 in
theorem zc200 {c : Nat} (h : 21 ≤ c) : hc200.2.1 c = 1 := put_cc rfl (zc199 h)
set_option maxRecDepth 100000 in
theorem zx200 {k : Nat} (h : ∀ q ∈ zord, k ≠ q) : hc200.1 k = none := put_nn rfl (h 11000 zm11000) (zx199 h)
set_option maxRecDepth 100000 in
theorem zc201 {c : Nat} (h : 21 ≤ c) : hc201.2.1 c = 1 := put_cc rfl (zc200 h)
set_option maxRecDepth 100000 in
theorem zx201 {k : Nat} (h : ∀ q ∈ zord, k ≠ q) : hc201.1 k = none := put_nn rfl (h 11000 zm11000) (zx200 h)
set_option maxRecDepth 100000 in
theorem zc202 {c : Nat} (h : 21 ≤ c) : hc202.2.1 c = 1 := add_cc rfl (show c ≠ 20 by omega) (zc201 h)
set_option maxRecDepth 100000 in
theorem zx202 {k : Nat} (h : ∀ q ∈ zord, k ≠ q) : hc202.1 k = none := add_nn rfl (h 20060 zm20060) (zx201 h)
set_option maxRecDepth 100000 in
theorem zc203 {c : Nat} (h : 21 ≤ c) : hc203.2.1 c = 1 := put_cc rfl (zc202 h)
set_option maxRecDepth 100000 in
theorem zx203 {k : Nat} (h : ∀ q ∈ zord, k ≠ q) : hc203.1 k = none := put_nn rfl (h 11000 zm11000) (zx202 h)
set_option maxRecDepth 100000 in
theorem zc204 {c : Nat} (h : 21 ≤ c) : hc204.2.1 c = 1 := add_cc rfl (show c ≠ 20 by omega) (zc203 h)
set_option maxRecDepth 100000 in
theorem zx204 {k : Nat} (h : ∀ q ∈ zord, k ≠ q) : hc204.1 k = none := add_nn rfl (h 20061 zm20061) (zx203 h)
set_option maxRecDepth 100000 in
theorem zc205 {c : Nat} (h : 21 ≤ c) : hc205.2.1 c = 1 := put_cc rfl (zc204 h)
set_option maxRecDepth 100000 in
theorem zx205 {k : Nat} (h : ∀ q ∈ zord, k ≠ q) : hc205.1 k = none := put_nn rfl (h 11000 zm11000) (zx204 h)
set_option maxRecDepth 100000 in
theorem zc206 {c : Nat} (h : 21 ≤ c) : hc206.2.1 c = 1 := put_cc rfl (zc205 h)
set_option maxRecDepth 100000 in
theorem zx206 {k : Nat} (h : ∀ q ∈ zord, k ≠ q) : hc206.1 k = none := put_nn rfl (h 11000 zm11000) (zx205 h)
set_option maxRecDepth 100000 in
theorem zc207 {c : Nat} (h : 21 ≤ c) : hc207.2.1 c = 1 := put_cc rfl (zc206 h)
set_option maxRecDepth 100000 in
theorem zx207 {k : Nat} (h : ∀ q ∈ zord, k ≠ q) : hc207.1 k = none := put_nn rfl (h 11000 zm11000) (zx206 h)
set_option maxRecDepth 100000 in
theorem zc208 {c : Nat} (h : 21 ≤ c) : hc208.2.1 c = 1 := put_cc rfl (zc207 h)
set_option maxRecDepth 100000 in
theorem zx208 {k : Nat} (h : ∀ q ∈ zord, k ≠ q) : hc208.1 k = none := put_nn rfl (h 11000 zm11000) (zx207 h)
set_option maxRecDepth 100000 in
theorem zc209 {c : Nat} (h : 21 ≤ c) : hc209.2.1 c = 1 := put_cc rfl (zc208 h)
set_option maxRecDepth 100000 in
theorem zx209 {k : Nat} (h : ∀ q ∈ zord, k ≠ q) : hc209.1 k = none := put_nn rfl (h 11000 zm11000) (zx208 h)
set_option maxRecDepth 100000 in
theorem zc210 {c : Nat} (h : 21 ≤ c) : hc210.2.1 c = 1 := add_cc rfl (show c ≠ 20 by omega) (zc209 h)
set_option maxRecDepth 100000 in
theorem zx210 {k : Nat} (h : ∀ q ∈ zord, k ≠ q) : hc210.1 k = none := add_nn rfl (h 20062 zm20062) (zx209 h)
set_option maxRecDepth 100000 in
theorem zc211 {c : Nat} (h : 21 ≤ c) : hc211.2.1 c = 1 := put_cc rfl (zc210 h)
set_option maxRecDepth 100000 in
theorem zx211 {k : Nat} (h : ∀ q ∈ zord, k ≠ q) : hc211.1 k = none := put_nn rfl (h 11000 zm11000) (zx210 h)
set_option maxRecDepth 100000 in
theorem zc212 {c : Nat} (h : 21 ≤ c) : hc212.2.1 c = 1 := add_cc rfl (show c ≠ 20 by omega) (zc211 h)
set_option maxRecDepth 100000 in
theorem zx212 {k : Nat} (h : ∀ q ∈ zord, k ≠ q) : hc212.1 k = none := add_nn rfl (h 20063 zm20063) (zx211 h)
set_option maxRecDepth 100000 in
theorem zc213 {c : Nat} (h : 21 ≤ c) : hc213.2.1 c = 1 := put_cc rfl (zc212 h)
set_option maxRecDepth 100000 in
theorem zx213 {k : Nat} (h : ∀ q ∈ zord, k ≠ q) : hc213.1 k = none := put_nn rfl (h 11000 zm11000) (zx212 h)
set_option maxRecDepth 100000 in
theorem zc214 {c : Nat} (h : 21 ≤ c) : hc214.2.1 c = 1 := put_cc rfl (zc213 h)
set_option maxRecDepth 100000 in
theorem zx214 {k : Nat} (h : ∀ q ∈ zord, k ≠ q) : hc214.1 k = none := put_nn rfl (h 11000 zm11000) (zx213 h)
set_option maxRecDepth 100000 in
theorem zc215 {c : Nat} (h : 21 ≤ c) : hc215.2.1 c = 1 := add_cc rfl (show c ≠ 20 by omega) (zc214 h)
set_option maxRecDepth 100000 in
theorem zx215 {k : Nat} (h : ∀ q ∈ zord, k ≠ q) : hc215.1 k = none := add_nn rfl (h 20064 zm20064) (zx214 h)
set_option maxRecDepth 100000 in
theorem zc216 {c : Nat} (h : 21 ≤ c) : hc216.2.1 c = 1 := put_cc rfl (zc215 h)
set_option maxRecDepth 100000 in
theorem zx216 {k : Nat} (h : ∀ q ∈ zord, k ≠ q) : hc216.1 k = none := put_nn rfl (h 11000 zm11000) (zx215 h)
set_option maxRecDepth 100000 in
theorem zc217 {c : Nat} (h : 21 ≤ c) : hc217.2.1 c = 1 := add_cc rfl (show c ≠ 20 by omega) (zc216 h)
set_option maxRecDepth 100000 in
theorem zx217 {k : Nat} (h : ∀ q ∈ zord, k ≠ q) : hc217.1 k = none := add_nn rfl (h 20065 zm20065) (zx216 h)
set_option maxRecDepth 100000 in
theorem zc218 {c : Nat} (h : 21 ≤ c) : hc218.2.1 c = 1 := put_cc rfl (zc217 h)
set_option maxRecDepth 100000 in
theorem zx218 {k : Nat} (h : ∀ q ∈ zord, k ≠ q) : hc218.1 k = none := put_nn rfl (h 20065 zm20065) (zx217 h)
set_option maxRecDepth 100000 in
theorem zc219 {c : Nat} (h : 21 ≤ c) : hc219.2.1 c = 1 := put_cc rfl (zc218 h)
set_option maxRecDepth 100000 in
theorem zx219 {k : Nat} (h : ∀ q ∈ zord, k ≠ q) : hc219.1 k = none := put_nn rfl (h 20065 zm20065) (zx218 h)
set_option maxRecDepth 100000 in
theorem zc220 {c : Nat} (h : 21 ≤ c) : hc220.2.1 c = 1 := put_cc rfl (zc219 h)
set_option maxRecDepth 100000 in
theorem zx220 {k : Nat} (h : ∀ q ∈ zord, k ≠ q) : hc220.1 k = none := put_nn rfl (h 20065 zm20065) (zx219 h)
set_option maxRecDepth 100000 in
theorem zc221 {c : Nat} (h : 21 ≤ c) : hc221.2.1 c = 1 := put_cc rfl (zc220 h)
set_option maxRecDepth 100000 in
theorem zx221 {k : Nat} (h : ∀ q ∈ zord, k ≠ q) : hc221.1 k = none := put_nn rfl (h 20065 zm20065) (zx220 h)
set_option maxRecDepth 100000 in
theorem zc222 {c : Nat} (h : 21 ≤ c) : hc222.2.1 c = 1 := put_cc rfl (zc221 h)
set_option maxRecDepth 100000 in
theorem zx222 {k : Nat} (h : ∀ q ∈ zord, k ≠ q) : hc222.1 k = none := put_nn rfl (h 20065 zm20065) (zx221 h)
set_option maxRecDepth 100000 in
theorem zc223 {c : Nat} (h : 21 ≤ c) : hc223.2.1 c = 1 := put_cc rfl (zc222 h)
set_option maxRecDepth 100000 in
theorem zx223 {k : Nat} (h : ∀ q ∈ zord, k ≠ q) : hc223.1 k = none := put_nn rfl (h 20065 zm20065) (zx222 h)
set_option maxRecDepth 100000 in
theorem zc224 {c : Nat} (h : 21 ≤ c) : hc224.2.1 c = 1 := put_cc rfl (zc223 h)
set_option maxRecDepth 100000 in
theorem zx224 {k : Nat} (h : ∀ q ∈ zord, k ≠ q) : hc224.1 k = none := put_nn rfl (h 11000 zm11000) (zx223 h)
set_option maxRecDepth 100000 in
theorem zc225 {c : Nat} (h : 21 ≤ c) : hc225.2.1 c = 1 := add_cc rfl (show c ≠ 20 by omega) (zc224 h)
set_option maxRecDepth 100000 in
theorem zx225 {k : Nat} (h : ∀ q ∈ zord, k ≠ q) : hc225.1 k = none := add_nn rfl (h 20066 zm20066) (zx224 h)
set_option maxRecDepth 100000 in
theorem zc226 {c : Nat} (h : 21 ≤ c) : hc226.2.1 c = 1 := put_cc rfl (zc225 h)
set_option maxRecDepth 100000 in
theorem zx226 {k : Nat} (h : ∀ q ∈ zord, k ≠ q) : hc226.1 k = none := put_nn rfl (h 11000 zm11000) (zx225 h)
set_option maxRecDepth 100000 in
theorem zc227 {c : Nat} (h : 21 ≤ c) : hc227.2.1 c = 1 := add_cc rfl (show c ≠ 20 by omega) (zc226 h)
set_option maxRecDepth 100000 in
theorem zx227 {k : Nat} (h : ∀ q ∈ zord, k ≠ q) : hc227.1 k = none := add_nn rfl (h 20067 zm20067) (zx226 h)
set_option maxRecDepth 100000 in
theorem zc228 {c : Nat} (h : 21 ≤ c) : hc228.2.1 c = 1 := put_cc rfl (zc227 h)
set_option maxRecDepth 100000 in
theorem zx228 {k : Nat} (h : ∀ q ∈ zord, k ≠ q) : hc228.1 k = none := put_nn rfl (h 11000 zm11000) (zx227 h)
set_option maxRecDepth 100000 in
theorem zc229 {c : Nat} (h : 21 ≤ c) : hc229.2.1 c = 1 := add_cc rfl (show c ≠ 20 by omega) (zc228 h)
set_option maxRecDepth 100000 in
theorem zx229 {k : Nat} (h : ∀ q ∈ zord, k ≠ q) : hc229.1 k = none := add_nn rfl (h 20068 zm20068) (zx228 h)
set_option maxRecDepth 100000 in
theorem zc230 {c : Nat} (h : 21 ≤ c) : hc230.2.1 c = 1 := put_cc rfl (zc229 h)
set_option maxRecDepth 100000 in
theorem zx230 {k : Nat} (h : ∀ q ∈ zord, k ≠ q) : hc230.1 k = none := put_nn rfl (h 11000 zm11000) (zx229 h)
set_option maxRecDepth 100000 in
theorem zc231 {c : Nat} (h : 21 ≤ c) : hc231.2.1 c = 1 := put_cc rfl (zc230 h)
set_option maxRecDepth 100000 in
theorem zx231 {k : Nat} (h : ∀ q ∈ zord, k ≠ q) : hc231.1 k = none := put_nn rfl (h 20054 zm20054) (zx230 h)
