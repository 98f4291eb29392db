def fn_Md_init_809 (l0 : Int) (h : qz_H) : Option qz_R :=
  qz_mk h 40 14 fun h1 q2 =>
  qz_ck ((0 : Int) < l0) <|
  qz_bn (qz_up h1 l0 54 q2) fun h3 =>
  qz_mk h3 40 14 fun h4 q5 =>
  qz_ck ((0 : Int) < l0) <|
  qz_bn (qz_up h4 l0 55 q5) fun h6 =>
  qz_mk h6 44 14 fun h7 q8 =>
  qz_ck ((0 : Int) < l0) <|
  qz_bn (qz_up h7 l0 56 q8) fun h9 =>
  qz_mk h9 40 1400 fun h10 q11 =>
  qz_ck ((0 : Int) < l0) <|
  qz_bn (qz_up h10 l0 59 q11) fun h12 =>
  qz_mk h12 40 1400 fun h13 q14 =>
  qz_ck ((0 : Int) < l0) <|
  qz_bn (qz_up h13 l0 61 q14) fun h15 =>
  qz_mk h15 42 320 fun h16 q17 =>
  qz_ck ((0 : Int) < l0) <|
  qz_bn (qz_up h16 l0 63 q17) fun h18 =>
  some (0, h18)
def fn_Md_init_682 (l0 : Int) (h : qz_H) : Option qz_R :=
  qz_mk h 40 4 fun h1 q2 =>
  qz_ck ((0 : Int) < l0) <|
  qz_bn (qz_up h1 l0 25 q2) fun h3 =>
  qz_mk h3 40 8 fun h4 q5 =>
  qz_ck ((0 : Int) < l0) <|
  qz_bn (qz_up h4 l0 26 q5) fun h6 =>
  qz_mk h6 40 8 fun h7 q8 =>
  qz_ck ((0 : Int) < l0) <|
  qz_bn (qz_up h7 l0 27 q8) fun h9 =>
  qz_mk h9 40 100 fun h10 q11 =>
  qz_ck ((0 : Int) < l0) <|
  qz_bn (qz_up h10 l0 29 q11) fun h12 =>
  qz_mk h12 40 100 fun h13 q14 =>
  qz_ck ((0 : Int) < l0) <|
  qz_bn (qz_up h13 l0 30 q14) fun h15 =>
  qz_mk h15 40 100 fun h16 q17 =>
  qz_ck ((0 : Int) < l0) <|
  qz_bn (qz_up h16 l0 31 q17) fun h18 =>
  qz_mk h18 40 12 fun h19 q20 =>
  qz_ck ((0 : Int) < l0) <|
  qz_bn (qz_up h19 l0 40 q20) fun h21 =>
  qz_mk h21 44 12 fun h22 q23 =>
  qz_ck ((0 : Int) < l0) <|
  qz_bn (qz_up h22 l0 41 q23) fun h24 =>
  qz_mk h24 44 12 fun h25 q26 =>
  qz_ck ((0 : Int) < l0) <|
  qz_bn (qz_up h25 l0 42 q26) fun h27 =>
  qz_mk h27 40 12 fun h28 q29 =>
  qz_ck ((0 : Int) < l0) <|
  qz_bn (qz_up h28 l0 43 q29) fun h30 =>
  qz_mk h30 40 12 fun h31 q32 =>
  qz_ck ((0 : Int) < l0) <|
  qz_bn (qz_up h31 l0 44 q32) fun h33 =>
  qz_mk h33 41 12 fun h34 q35 =>
  qz_ck ((0 : Int) < l0) <|
  qz_bn (qz_up h34 l0 45 q35) fun h36 =>
  qz_mk h36 40 12 fun h37 q38 =>
  qz_ck ((0 : Int) < l0) <|
  qz_bn (qz_up h37 l0 46 q38) fun h39 =>
  qz_mk h39 40 80 fun h40 q41 =>
  qz_ck ((0 : Int) < l0) <|
  qz_bn (qz_up h40 l0 50 q41) fun h42 =>
  qz_mk h42 40 14 fun h43 q44 =>
  qz_ck ((0 : Int) < l0) <|
  qz_bn (qz_up h43 l0 52 q44) fun h45 =>
  qz_mk h45 40 14 fun h46 q47 =>
  qz_ck ((0 : Int) < l0) <|
  qz_bn (qz_up h46 l0 53 q47) fun h48 =>
  fn_Md_init_809 l0 h48
def fn_Md_init_562 (l0 : Int) (h : qz_H) : Option qz_R :=
  qz_mk h 42 320 fun h1 q2 =>
  qz_ck ((0 : Int) < l0) <|
  qz_bn (qz_up h1 l0 6 q2) fun h3 =>
  qz_mk h3 40 4 fun h4 q5 =>
  qz_ck ((0 : Int) < l0) <|
  qz_bn (qz_up h4 l0 8 q5) fun h6 =>
  qz_mk h6 40 4 fun h7 q8 =>
  qz_ck ((0 : Int) < l0) <|
  qz_bn (qz_up h7 l0 9 q8) fun h9 =>
  qz_mk h9 40 4 fun h10 q11 =>
  qz_ck ((0 : Int) < l0) <|
  qz_bn (qz_up h10 l0 10 q11) fun h12 =>
  qz_mk h12 40 32 fun h13 q14 =>
  qz_ck ((0 : Int) < l0) <|
  qz_bn (qz_up h13 l0 11 q14) fun h15 =>
  qz_mk h15 40 5 fun h16 q17 =>
  qz_ck ((0 : Int) < l0) <|
  qz_bn (qz_up h16 l0 12 q17) fun h18 =>
  qz_mk h18 40 64 fun h19 q20 =>
  qz_ck ((0 : Int) < l0) <|
  qz_bn (qz_up h19 l0 13 q20) fun h21 =>
  qz_mk h21 41 64 fun h22 q23 =>
  qz_ck ((0 : Int) < l0) <|
  qz_bn (qz_up h22 l0 14 q23) fun h24 =>
  qz_mk h24 40 4 fun h25 q26 =>
  qz_ck ((0 : Int) < l0) <|
  qz_bn (qz_up h25 l0 16 q26) fun h27 =>
  qz_mk h27 40 4 fun h28 q29 =>
  qz_ck ((0 : Int) < l0) <|
  qz_bn (qz_up h28 l0 17 q29) fun h30 =>
  qz_mk h30 40 4 fun h31 q32 =>
  qz_ck ((0 : Int) < l0) <|
  qz_bn (qz_up h31 l0 18 q32) fun h33 =>
  qz_mk h33 40 32 fun h34 q35 =>
  qz_ck ((0 : Int) < l0) <|
  qz_bn (qz_up h34 l0 19 q35) fun h36 =>
  qz_mk h36 40 5 fun h37 q38 =>
  qz_ck ((0 : Int) < l0) <|
  qz_bn (qz_up h37 l0 20 q38) fun h39 =>
  qz_mk h39 40 64 fun h40 q41 =>
  qz_ck ((0 : Int) < l0) <|
  qz_bn (qz_up h40 l0 21 q41) fun h42 =>
  qz_mk h42 41 64 fun h43 q44 =>
  qz_ck ((0 : Int) < l0) <|
  qz_bn (qz_up h43 l0 22 q44) fun h45 =>
  qz_mk h45 40 4 fun h46 q47 =>
  qz_ck ((0 : Int) < l0) <|
  qz_bn (qz_up h46 l0 24 q47) fun h48 =>
  fn_Md_init_682 l0 h48
def fn_Md_init_384 (l0 : Int) (h : qz_H) : Option qz_R :=
  qz_mk h 40 30 fun h1 q2 =>
  qz_ck (0 < q2 ∧ (0 : Int) ≤ 0 ∧ 0 < h1 q2 (-1)) <|
  qz_bn (qz_up h1 q2 0 0) fun h3 =>
  qz_ck (0 < q2 ∧ (0 : Int) ≤ 1 ∧ 1 < h3 q2 (-1)) <|
  qz_bn (qz_up h3 q2 1 1) fun h4 =>
  qz_ck (0 < q2 ∧ (0 : Int) ≤ 2 ∧ 2 < h4 q2 (-1)) <|
  qz_bn (qz_up h4 q2 2 2) fun h5 =>
  qz_ck (0 < q2 ∧ (0 : Int) ≤ 3 ∧ 3 < h5 q2 (-1)) <|
  qz_bn (qz_up h5 q2 3 3) fun h6 =>
  qz_ck (0 < q2 ∧ (0 : Int) ≤ 4 ∧ 4 < h6 q2 (-1)) <|
  qz_bn (qz_up h6 q2 4 4) fun h7 =>
  qz_ck (0 < q2 ∧ (0 : Int) ≤ 5 ∧ 5 < h7 q2 (-1)) <|
  qz_bn (qz_up h7 q2 5 5) fun h8 =>
  qz_ck (0 < q2 ∧ (0 : Int) ≤ 6 ∧ 6 < h8 q2 (-1)) <|
  qz_bn (qz_up h8 q2 6 11) fun h9 =>
  qz_ck (0 < q2 ∧ (0 : Int) ≤ 7 ∧ 7 < h9 q2 (-1)) <|
  qz_bn (qz_up h9 q2 7 12) fun h10 =>
  qz_ck (0 < q2 ∧ (0 : Int) ≤ 8 ∧ 8 < h10 q2 (-1)) <|
  qz_bn (qz_up h10 q2 8 13) fun h11 =>
  qz_ck (0 < q2 ∧ (0 : Int) ≤ 9 ∧ 9 < h11 q2 (-1)) <|
  qz_bn (qz_up h11 q2 9 15) fun h12 =>
  qz_ck (0 < q2 ∧ (0 : Int) ≤ 10 ∧ 10 < h12 q2 (-1)) <|
  qz_bn (qz_up h12 q2 10 16) fun h13 =>
  qz_ck (0 < q2 ∧ (0 : Int) ≤ 11 ∧ 11 < h13 q2 (-1)) <|
  qz_bn (qz_up h13 q2 11 26) fun h14 =>
  qz_ck (0 < q2 ∧ (0 : Int) ≤ 12 ∧ 12 < h14 q2 (-1)) <|
  qz_bn (qz_up h14 q2 12 27) fun h15 =>
  qz_ck (0 < q2 ∧ (0 : Int) ≤ 13 ∧ 13 < h15 q2 (-1)) <|
  qz_bn (qz_up h15 q2 13 32) fun h16 =>
  qz_ck (0 < q2 ∧ (0 : Int) ≤ 14 ∧ 14 < h16 q2 (-1)) <|
  qz_bn (qz_up h16 q2 14 33) fun h17 =>
  qz_ck (0 < q2 ∧ (0 : Int) ≤ 15 ∧ 15 < h17 q2 (-1)) <|
  qz_bn (qz_up h17 q2 15 34) fun h18 =>
  qz_ck (0 < q2 ∧ (0 : Int) ≤ 16 ∧ 16 < h18 q2 (-1)) <|
  qz_bn (qz_up h18 q2 16 65) fun h19 =>
  qz_ck (0 < q2 ∧ (0 : Int) ≤ 17 ∧ 17 < h19 q2 (-1)) <|
  qz_bn (qz_up h19 q2 17 66) fun h20 =>
  qz_ck (0 < q2 ∧ (0 : Int) ≤ 18 ∧ 18 < h20 q2 (-1)) <|
  qz_bn (qz_up h20 q2 18 69) fun h21 =>
  qz_ck (0 < q2 ∧ (0 : Int) ≤ 19 ∧ 19 < h21 q2 (-1)) <|
  qz_bn (qz_up h21 q2 19 70) fun h22 =>
  qz_ck (0 < q2 ∧ (0 : Int) ≤ 20 ∧ 20 < h22 q2 (-1)) <|
  qz_bn (qz_up h22 q2 20 72) fun h23 =>
  qz_ck (0 < q2 ∧ (0 : Int) ≤ 21 ∧ 21 < h23 q2 (-1)) <|
  qz_bn (qz_up h23 q2 21 106) fun h24 =>
  qz_ck (0 < q2 ∧ (0 : Int) ≤ 22 ∧ 22 < h24 q2 (-1)) <|
  qz_bn (qz_up h24 q2 22 107) fun h25 =>
  qz_ck (0 < q2 ∧ (0 : Int) ≤ 23 ∧ 23 < h25 q2 (-1)) <|
  qz_bn (qz_up h25 q2 23 108) fun h26 =>
  qz_ck (0 < q2 ∧ (0 : Int) ≤ 24 ∧ 24 < h26 q2 (-1)) <|
  qz_bn (qz_up h26 q2 24 80) fun h27 =>
  qz_ck (0 < q2 ∧ (0 : Int) ≤ 25 ∧ 25 < h27 q2 (-1)) <|
  qz_bn (qz_up h27 q2 25 81) fun h28 =>
  qz_ck (0 < q2 ∧ (0 : Int) ≤ 26 ∧ 26 < h28 q2 (-1)) <|
  qz_bn (qz_up h28 q2 26 124) fun h29 =>
  qz_ck (0 < q2 ∧ (0 : Int) ≤ 27 ∧ 27 < h29 q2 (-1)) <|
  qz_bn (qz_up h29 q2 27 126) fun h30 =>
  qz_ck (0 < q2 ∧ (0 : Int) ≤ 28 ∧ 28 < h30 q2 (-1)) <|
  qz_bn (qz_up h30 q2 28 167) fun h31 =>
  qz_ck (0 < q2 ∧ (0 : Int) ≤ 29 ∧ 29 < h31 q2 (-1)) <|
  qz_bn (qz_up h31 q2 29 172) fun h32 =>
  qz_ck ((0 : Int) < l0) <|
  qz_bn (qz_up h32 l0 2 q2) fun h33 =>
  fn_Md_init_562 l0 h33
def fn_Md_init_216 (l0 : Int) (h : qz_H) : Option qz_R :=
  qz_mk h 41 30 fun h1 q2 =>
  qz_ck (0 < q2 ∧ (0 : Int) ≤ 0 ∧ 0 < h1 q2 (-1)) <|
  qz_bn (qz_up h1 q2 0 6450277) fun h3 =>
  qz_ck (0 < q2 ∧ (0 : Int) ≤ 1 ∧ 1 < h3 q2 (-1)) <|
  qz_bn (qz_up h3 q2 1 0) fun h4 =>
  qz_ck (0 < q2 ∧ (0 : Int) ≤ 2 ∧ 2 < h4 q2 (-1)) <|
  qz_bn (qz_up h4 q2 2 0) fun h5 =>
  qz_ck (0 < q2 ∧ (0 : Int) ≤ 3 ∧ 3 < h5 q2 (-1)) <|
  qz_bn (qz_up h5 q2 3 0) fun h6 =>
  qz_ck (0 < q2 ∧ (0 : Int) ≤ 4 ∧ 4 < h6 q2 (-1)) <|
  qz_bn (qz_up h6 q2 4 0) fun h7 =>
  qz_ck (0 < q2 ∧ (0 : Int) ≤ 5 ∧ 5 < h7 q2 (-1)) <|
  qz_bn (qz_up h7 q2 5 0) fun h8 =>
  qz_ck (0 < q2 ∧ (0 : Int) ≤ 6 ∧ 6 < h8 q2 (-1)) <|
  qz_bn (qz_up h8 q2 6 0) fun h9 =>
  qz_ck (0 < q2 ∧ (0 : Int) ≤ 7 ∧ 7 < h9 q2 (-1)) <|
  qz_bn (qz_up h9 q2 7 0) fun h10 =>
  qz_ck (0 < q2 ∧ (0 : Int) ≤ 8 ∧ 8 < h10 q2 (-1)) <|
  qz_bn (qz_up h10 q2 8 0) fun h11 =>
  qz_ck (0 < q2 ∧ (0 : Int) ≤ 9 ∧ 9 < h11 q2 (-1)) <|
  qz_bn (qz_up h11 q2 9 0) fun h12 =>
  qz_ck (0 < q2 ∧ (0 : Int) ≤ 10 ∧ 10 < h12 q2 (-1)) <|
  qz_bn (qz_up h12 q2 10 0) fun h13 =>
  qz_ck (0 < q2 ∧ (0 : Int) ≤ 11 ∧ 11 < h13 q2 (-1)) <|
  qz_bn (qz_up h13 q2 11 0) fun h14 =>
  qz_ck (0 < q2 ∧ (0 : Int) ≤ 12 ∧ 12 < h14 q2 (-1)) <|
  qz_bn (qz_up h14 q2 12 0) fun h15 =>
  qz_ck (0 < q2 ∧ (0 : Int) ≤ 13 ∧ 13 < h15 q2 (-1)) <|
  qz_bn (qz_up h15 q2 13 116) fun h16 =>
  qz_ck (0 < q2 ∧ (0 : Int) ≤ 14 ∧ 14 < h16 q2 (-1)) <|
  qz_bn (qz_up h16 q2 14 116) fun h17 =>
  qz_ck (0 < q2 ∧ (0 : Int) ≤ 15 ∧ 15 < h17 q2 (-1)) <|
  qz_bn (qz_up h17 q2 15 101) fun h18 =>
  qz_ck (0 < q2 ∧ (0 : Int) ≤ 16 ∧ 16 < h18 q2 (-1)) <|
  qz_bn (qz_up h18 q2 16 116) fun h19 =>
  qz_ck (0 < q2 ∧ (0 : Int) ≤ 17 ∧ 17 < h19 q2 (-1)) <|
  qz_bn (qz_up h19 q2 17 116) fun h20 =>
  qz_ck (0 < q2 ∧ (0 : Int) ≤ 18 ∧ 18 < h20 q2 (-1)) <|
  qz_bn (qz_up h20 q2 18 0) fun h21 =>
  qz_ck (0 < q2 ∧ (0 : Int) ≤ 19 ∧ 19 < h21 q2 (-1)) <|
  qz_bn (qz_up h21 q2 19 0) fun h22 =>
  qz_ck (0 < q2 ∧ (0 : Int) ≤ 20 ∧ 20 < h22 q2 (-1)) <|
  qz_bn (qz_up h22 q2 20 0) fun h23 =>
  qz_ck (0 < q2 ∧ (0 : Int) ≤ 21 ∧ 21 < h23 q2 (-1)) <|
  qz_bn (qz_up h23 q2 21 0) fun h24 =>
  qz_ck (0 < q2 ∧ (0 : Int) ≤ 22 ∧ 22 < h24 q2 (-1)) <|
  qz_bn (qz_up h24 q2 22 0) fun h25 =>
  qz_ck (0 < q2 ∧ (0 : Int) ≤ 23 ∧ 23 < h25 q2 (-1)) <|
  qz_bn (qz_up h25 q2 23 0) fun h26 =>
  qz_ck (0 < q2 ∧ (0 : Int) ≤ 24 ∧ 24 < h26 q2 (-1)) <|
  qz_bn (qz_up h26 q2 24 0) fun h27 =>
  qz_ck (0 < q2 ∧ (0 : Int) ≤ 25 ∧ 25 < h27 q2 (-1)) <|
  qz_bn (qz_up h27 q2 25 0) fun h28 =>
  qz_ck (0 < q2 ∧ (0 : Int) ≤ 26 ∧ 26 < h28 q2 (-1)) <|
  qz_bn (qz_up h28 q2 26 0) fun h29 =>
  qz_ck (0 < q2 ∧ (0 : Int) ≤ 27 ∧ 27 < h29 q2 (-1)) <|
  qz_bn (qz_up h29 q2 27 0) fun h30 =>
  qz_ck (0 < q2 ∧ (0 : Int) ≤ 28 ∧ 28 < h30 q2 (-1)) <|
  qz_bn (qz_up h30 q2 28 1600730676) fun h31 =>
  qz_ck (0 < q2 ∧ (0 : Int) ≤ 29 ∧ 29 < h31 q2 (-1)) <|
  qz_bn (qz_up h31 q2 29 7954587747278282611) fun h32 =>
  qz_ck ((0 : Int) < l0) <|
  qz_bn (qz_up h32 l0 1 q2) fun h33 =>
  fn_Md_init_384 l0 h33
set_option maxRecDepth 20000 in
def fn_Md_init (l0 : Int) (h : qz_H) : Option qz_R :=
  qz_mk h 41 30 fun h1 q2 =>
  qz_ck (0 < q2 ∧ (0 : Int) ≤ 0 ∧ 0 < h1 q2 (-1)) <|
  qz_bn (qz_up h1 q2 0 8461826529626908769) fun h3 =>
  qz_ck (0 < q2 ∧ (0 : Int) ≤ 1 ∧ 1 < h3 q2 (-1)) <|
  qz_bn (qz_up h3 q2 1 7237488) fun h4 =>
  qz_ck (0 < q2 ∧ (0 : Int) ≤ 2 ∧ 2 < h4 q2 (-1)) <|
  qz_bn (qz_up h4 q2 2 422726034283) fun h5 =>
  qz_ck (0 < q2 ∧ (0 : Int) ≤ 3 ∧ 3 < h5 q2 (-1)) <|
  qz_bn (qz_up h5 q2 3 1819242352) fun h6 =>
  qz_ck (0 < q2 ∧ (0 : Int) ≤ 4 ∧ 4 < h6 q2 (-1)) <|
  qz_bn (qz_up h6 q2 4 26982) fun h7 =>
  qz_ck (0 < q2 ∧ (0 : Int) ≤ 5 ∧ 5 < h7 q2 (-1)) <|
  qz_bn (qz_up h7 q2 5 1701606245) fun h8 =>
  qz_ck (0 < q2 ∧ (0 : Int) ≤ 6 ∧ 6 < h8 q2 (-1)) <|
  qz_bn (qz_up h8 q2 6 6647396) fun h9 =>
  qz_ck (0 < q2 ∧ (0 : Int) ≤ 7 ∧ 7 < h9 q2 (-1)) <|
  qz_bn (qz_up h9 q2 7 25202) fun h10 =>
  qz_ck (0 < q2 ∧ (0 : Int) ≤ 8 ∧ 8 < h10 q2 (-1)) <|
  qz_bn (qz_up h10 q2 8 422825650534) fun h11 =>
  qz_ck (0 < q2 ∧ (0 : Int) ≤ 9 ∧ 9 < h11 q2 (-1)) <|
  qz_bn (qz_up h11 q2 9 125780071117422) fun h12 =>
  qz_ck (0 < q2 ∧ (0 : Int) ≤ 10 ∧ 10 < h12 q2 (-1)) <|
  qz_bn (qz_up h12 q2 10 1667329132) fun h13 =>
  qz_ck (0 < q2 ∧ (0 : Int) ≤ 11 ∧ 11 < h13 q2 (-1)) <|
  qz_bn (qz_up h13 q2 11 1685221232) fun h14 =>
  qz_ck (0 < q2 ∧ (0 : Int) ≤ 12 ∧ 12 < h14 q2 (-1)) <|
  qz_bn (qz_up h14 q2 12 126879447475060) fun h15 =>
  qz_ck (0 < q2 ∧ (0 : Int) ≤ 13 ∧ 13 < h15 q2 (-1)) <|
  qz_bn (qz_up h15 q2 13 7813573148589057893) fun h16 =>
  qz_ck (0 < q2 ∧ (0 : Int) ≤ 14 ∧ 14 < h16 q2 (-1)) <|
  qz_bn (qz_up h16 q2 14 7813573148589060965) fun h17 =>
  qz_ck (0 < q2 ∧ (0 : Int) ≤ 15 ∧ 15 < h17 q2 (-1)) <|
  qz_bn (qz_up h17 q2 15 7813573148589061221) fun h18 =>
  qz_ck (0 < q2 ∧ (0 : Int) ≤ 16 ∧ 16 < h18 q2 (-1)) <|
  qz_bn (qz_up h18 q2 16 7580457772612808307) fun h19 =>
  qz_ck (0 < q2 ∧ (0 : Int) ≤ 17 ∧ 17 < h19 q2 (-1)) <|
  qz_bn (qz_up h19 q2 17 7581304396566195827) fun h20 =>
  qz_ck (0 < q2 ∧ (0 : Int) ≤ 18 ∧ 18 < h20 q2 (-1)) <|
  qz_bn (qz_up h20 q2 18 29611163174400378) fun h21 =>
  qz_ck (0 < q2 ∧ (0 : Int) ≤ 19 ∧ 19 < h21 q2 (-1)) <|
  qz_bn (qz_up h21 q2 19 115668606150001) fun h22 =>
  qz_ck (0 < q2 ∧ (0 : Int) ≤ 20 ∧ 20 < h22 q2 (-1)) <|
  qz_bn (qz_up h22 q2 20 7580457772764127091) fun h23 =>
  qz_ck (0 < q2 ∧ (0 : Int) ≤ 21 ∧ 21 < h23 q2 (-1)) <|
  qz_bn (qz_up h23 q2 21 29611163174134884) fun h24 =>
  qz_ck (0 < q2 ∧ (0 : Int) ≤ 22 ∧ 22 < h24 q2 (-1)) <|
  qz_bn (qz_up h24 q2 22 29611163175318882) fun h25 =>
  qz_ck (0 < q2 ∧ (0 : Int) ≤ 23 ∧ 23 < h25 q2 (-1)) <|
  qz_bn (qz_up h25 q2 23 29611163174925676) fun h26 =>
  qz_ck (0 < q2 ∧ (0 : Int) ≤ 24 ∧ 24 < h26 q2 (-1)) <|
  qz_bn (qz_up h26 q2 24 29614470299218298) fun h27 =>
  qz_ck (0 < q2 ∧ (0 : Int) ≤ 25 ∧ 25 < h27 q2 (-1)) <|
  qz_bn (qz_up h27 q2 25 115681524606321) fun h28 =>
  qz_ck (0 < q2 ∧ (0 : Int) ≤ 26 ∧ 26 < h28 q2 (-1)) <|
  qz_bn (qz_up h28 q2 26 29614470298952804) fun h29 =>
  qz_ck (0 < q2 ∧ (0 : Int) ≤ 27 ∧ 27 < h29 q2 (-1)) <|
  qz_bn (qz_up h29 q2 27 29614470299743596) fun h30 =>
  qz_ck (0 < q2 ∧ (0 : Int) ≤ 28 ∧ 28 < h30 q2 (-1)) <|
  qz_bn (qz_up h30 q2 28 7580457772948545904) fun h31 =>
  qz_ck (0 < q2 ∧ (0 : Int) ≤ 29 ∧ 29 < h31 q2 (-1)) <|
  qz_bn (qz_up h31 q2 29 7581304396600341605) fun h32 =>
  qz_ck ((0 : Int) < l0) <|
  qz_bn (qz_up h32 l0 0 q2) fun h33 =>
  fn_Md_init_216 l0 h33
def bk_Md_init_0 : List (Instr × Nat) := [(.aload_n 0, 1), (.invokespecial 1, 3), (.aload_n 0, 1), (.bipush 30, 2), (.newarray .long, 2), (.dup, 1), (.iconst 0, 1), (.ldc2_w 7, 3), (.lastore, 1), (.dup, 1), (.iconst 1, 1), (.ldc2_w 9, 3), (.lastore, 1), (.dup, 1), (.iconst 2, 1), (.ldc2_w 11, 3), (.lastore, 1), (.dup, 1), (.iconst 3, 1), (.ldc2_w 13, 3), (.lastore, 1), (.dup, 1), (.iconst 4, 1), (.ldc2_w 15, 3), (.lastore, 1), (.dup, 1), (.iconst 5, 1), (.ldc2_w 17, 3), (.lastore, 1), (.dup, 1), (.bipush 6, 2), (.ldc2_w 19, 3), (.lastore, 1), (.dup, 1), (.bipush 7, 2), (.ldc2_w 21, 3), (.lastore, 1), (.dup, 1), (.bipush 8, 2), (.ldc2_w 23, 3), (.lastore, 1), (.dup, 1), (.bipush 9, 2), (.ldc2_w 25, 3), (.lastore, 1), (.dup, 1), (.bipush 10, 2), (.ldc2_w 27, 3), (.lastore, 1), (.dup, 1), (.bipush 11, 2), (.ldc2_w 29, 3), (.lastore, 1), (.dup, 1), (.bipush 12, 2), (.ldc2_w 31, 3), (.lastore, 1), (.dup, 1), (.bipush 13, 2), (.ldc2_w 33, 3), (.lastore, 1), (.dup, 1), (.bipush 14, 2), (.ldc2_w 35, 3), (.lastore, 1), (.dup, 1), (.bipush 15, 2), (.ldc2_w 37, 3), (.lastore, 1), (.dup, 1), (.bipush 16, 2), (.ldc2_w 39, 3), (.lastore, 1), (.dup, 1), (.bipush 17, 2), (.ldc2_w 41, 3), (.lastore, 1), (.dup, 1), (.bipush 18, 2), (.ldc2_w 43, 3), (.lastore, 1), (.dup, 1), (.bipush 19, 2), (.ldc2_w 45, 3), (.lastore, 1), (.dup, 1), (.bipush 20, 2), (.ldc2_w 47, 3), (.lastore, 1), (.dup, 1), (.bipush 21, 2), (.ldc2_w 49, 3), (.lastore, 1), (.dup, 1), (.bipush 22, 2), (.ldc2_w 51, 3), (.lastore, 1), (.dup, 1), (.bipush 23, 2), (.ldc2_w 53, 3), (.lastore, 1), (.dup, 1), (.bipush 24, 2), (.ldc2_w 55, 3), (.lastore, 1), (.dup, 1), (.bipush 25, 2), (.ldc2_w 57, 3), (.lastore, 1), (.dup, 1), (.bipush 26, 2), (.ldc2_w 59, 3), (.lastore, 1), (.dup, 1), (.bipush 27, 2), (.ldc2_w 61, 3), (.lastore, 1), (.dup, 1), (.bipush 28, 2), (.ldc2_w 63, 3), (.lastore, 1), (.dup, 1), (.bipush 29, 2), (.ldc2_w 65, 3), (.lastore, 1), (.putfield 67, 3)]
def bk_Md_init_216 : List (Instr × Nat) := [(.aload_n 0, 1), (.bipush 30, 2), (.newarray .long, 2), (.dup, 1), (.iconst 0, 1), (.ldc2_w 73, 3), (.lastore, 1), (.dup, 1), (.iconst 1, 1), (.lconst 0, 1), (.lastore, 1), (.dup, 1), (.iconst 2, 1), (.lconst 0, 1), (.lastore, 1), (.dup, 1), (.iconst 3, 1), (.lconst 0, 1), (.lastore, 1), (.dup, 1), (.iconst 4, 1), (.lconst 0, 1), (.lastore, 1), (.dup, 1), (.iconst 5, 1), (.lconst 0, 1), (.lastore, 1), (.dup, 1), (.bipush 6, 2), (.lconst 0, 1), (.lastore, 1), (.dup, 1), (.bipush 7, 2), (.lconst 0, 1), (.lastore, 1), (.dup, 1), (.bipush 8, 2), (.lconst 0, 1), (.lastore, 1), (.dup, 1), (.bipush 9, 2), (.lconst 0, 1), (.lastore, 1), (.dup, 1), (.bipush 10, 2), (.lconst 0, 1), (.lastore, 1), (.dup, 1), (.bipush 11, 2), (.lconst 0, 1), (.lastore, 1), (.dup, 1), (.bipush 12, 2), (.lconst 0, 1), (.lastore, 1), (.dup, 1), (.bipush 13, 2), (.ldc2_w 75, 3), (.lastore, 1), (.dup, 1), (.bipush 14, 2), (.ldc2_w 75, 3), (.lastore, 1), (.dup, 1), (.bipush 15, 2), (.ldc2_w 77, 3), (.lastore, 1), (.dup, 1), (.bipush 16, 2), (.ldc2_w 75, 3), (.lastore, 1), (.dup, 1), (.bipush 17, 2), (.ldc2_w 75, 3), (.lastore, 1), (.dup, 1), (.bipush 18, 2), (.lconst 0, 1), (.lastore, 1), (.dup, 1), (.bipush 19, 2), (.lconst 0, 1), (.lastore, 1), (.dup, 1), (.bipush 20, 2), (.lconst 0, 1), (.lastore, 1), (.dup, 1), (.bipush 21, 2), (.lconst 0, 1), (.lastore, 1), (.dup, 1), (.bipush 22, 2), (.lconst 0, 1), (.lastore, 1), (.dup, 1), (.bipush 23, 2), (.lconst 0, 1), (.lastore, 1), (.dup, 1), (.bipush 24, 2), (.lconst 0, 1), (.lastore, 1), (.dup, 1), (.bipush 25, 2), (.lconst 0, 1), (.lastore, 1), (.dup, 1), (.bipush 26, 2), (.lconst 0, 1), (.lastore, 1), (.dup, 1), (.bipush 27, 2), (.lconst 0, 1), (.lastore, 1), (.dup, 1), (.bipush 28, 2), (.ldc2_w 79, 3), (.lastore, 1), (.dup, 1), (.bipush 29, 2), (.ldc2_w 81, 3), (.lastore, 1), (.putfield 83, 3)]
def bk_Md_init_384 : List (Instr × Nat) := [(.aload_n 0, 1), (.bipush 30, 2), (.newarray .int, 2), (.dup, 1), (.iconst 0, 1), (.iconst 0, 1), (.iastore, 1), (.dup, 1), (.iconst 1, 1), (.iconst 1, 1), (.iastore, 1), (.dup, 1), (.iconst 2, 1), (.iconst 2, 1), (.iastore, 1), (.dup, 1), (.iconst 3, 1), (.iconst 3, 1), (.iastore, 1), (.dup, 1), (.iconst 4, 1), (.iconst 4, 1), (.iastore, 1), (.dup, 1), (.iconst 5, 1), (.iconst 5, 1), (.iastore, 1), (.dup, 1), (.bipush 6, 2), (.bipush 11, 2), (.iastore, 1), (.dup, 1), (.bipush 7, 2), (.bipush 12, 2), (.iastore, 1), (.dup, 1), (.bipush 8, 2), (.bipush 13, 2), (.iastore, 1), (.dup, 1), (.bipush 9, 2), (.bipush 15, 2), (.iastore, 1), (.dup, 1), (.bipush 10, 2), (.bipush 16, 2), (.iastore, 1), (.dup, 1), (.bipush 11, 2), (.bipush 26, 2), (.iastore, 1), (.dup, 1), (.bipush 12, 2), (.bipush 27, 2), (.iastore, 1), (.dup, 1), (.bipush 13, 2), (.bipush 32, 2), (.iastore, 1), (.dup, 1), (.bipush 14, 2), (.bipush 33, 2), (.iastore, 1), (.dup, 1), (.bipush 15, 2), (.bipush 34, 2), (.iastore, 1), (.dup, 1), (.bipush 16, 2), (.bipush 65, 2), (.iastore, 1), (.dup, 1), (.bipush 17, 2), (.bipush 66, 2), (.iastore, 1), (.dup, 1), (.bipush 18, 2), (.bipush 69, 2), (.iastore, 1), (.dup, 1), (.bipush 19, 2), (.bipush 70, 2), (.iastore, 1), (.dup, 1), (.bipush 20, 2), (.bipush 72, 2), (.iastore, 1), (.dup, 1), (.bipush 21, 2), (.bipush 106, 2), (.iastore, 1), (.dup, 1), (.bipush 22, 2), (.bipush 107, 2), (.iastore, 1), (.dup, 1), (.bipush 23, 2), (.bipush 108, 2), (.iastore, 1), (.dup, 1), (.bipush 24, 2), (.bipush 80, 2), (.iastore, 1), (.dup, 1), (.bipush 25, 2), (.bipush 81, 2), (.iastore, 1), (.dup, 1), (.bipush 26, 2), (.bipush 124, 2), (.iastore, 1), (.dup, 1), (.bipush 27, 2), (.bipush 126, 2), (.iastore, 1), (.dup, 1), (.bipush 28, 2), (.sipush 167, 3), (.iastore, 1), (.dup, 1), (.bipush 29, 2), (.sipush 172, 3), (.iastore, 1), (.putfield 86, 3)]
def bk_Md_init_562 : List (Instr × Nat) := [(.aload_n 0, 1), (.sipush 320, 3), (.newarray .char, 2), (.putfield 90, 3), (.aload_n 0, 1), (.iconst 4, 1), (.newarray .int, 2), (.putfield 94, 3), (.aload_n 0, 1), (.iconst 4, 1), (.newarray .int, 2), (.putfield 97, 3), (.aload_n 0, 1), (.iconst 4, 1), (.newarray .int, 2), (.putfield 100, 3), (.aload_n 0, 1), (.bipush 32, 2), (.newarray .int, 2), (.putfield 103, 3), (.aload_n 0, 1), (.iconst 5, 1), (.newarray .int, 2), (.putfield 106, 3), (.aload_n 0, 1), (.bipush 64, 2), (.newarray .int, 2), (.putfield 109, 3), (.aload_n 0, 1), (.bipush 64, 2), (.newarray .long, 2), (.putfield 112, 3), (.aload_n 0, 1), (.iconst 4, 1), (.newarray .int, 2), (.putfield 115, 3), (.aload_n 0, 1), (.iconst 4, 1), (.newarray .int, 2), (.putfield 118, 3), (.aload_n 0, 1), (.iconst 4, 1), (.newarray .int, 2), (.putfield 121, 3), (.aload_n 0, 1), (.bipush 32, 2), (.newarray .int, 2), (.putfield 124, 3), (.aload_n 0, 1), (.iconst 5, 1), (.newarray .int, 2), (.putfield 127, 3), (.aload_n 0, 1), (.bipush 64, 2), (.newarray .int, 2), (.putfield 130, 3), (.aload_n 0, 1), (.bipush 64, 2), (.newarray .long, 2), (.putfield 133, 3), (.aload_n 0, 1), (.iconst 4, 1), (.newarray .int, 2), (.putfield 136, 3)]
def bk_Md_init_682 : List (Instr × Nat) := [(.aload_n 0, 1), (.iconst 4, 1), (.newarray .int, 2), (.putfield 139, 3), (.aload_n 0, 1), (.bipush 8, 2), (.newarray .int, 2), (.putfield 142, 3), (.aload_n 0, 1), (.bipush 8, 2), (.newarray .int, 2), (.putfield 145, 3), (.aload_n 0, 1), (.bipush 100, 2), (.newarray .int, 2), (.putfield 148, 3), (.aload_n 0, 1), (.bipush 100, 2), (.newarray .int, 2), (.putfield 151, 3), (.aload_n 0, 1), (.bipush 100, 2), (.newarray .int, 2), (.putfield 154, 3), (.aload_n 0, 1), (.bipush 12, 2), (.newarray .int, 2), (.putfield 157, 3), (.aload_n 0, 1), (.bipush 12, 2), (.newarray .boolean, 2), (.putfield 160, 3), (.aload_n 0, 1), (.bipush 12, 2), (.newarray .boolean, 2), (.putfield 164, 3), (.aload_n 0, 1), (.bipush 12, 2), (.newarray .int, 2), (.putfield 167, 3), (.aload_n 0, 1), (.bipush 12, 2), (.newarray .int, 2), (.putfield 170, 3), (.aload_n 0, 1), (.bipush 12, 2), (.newarray .long, 2), (.putfield 173, 3), (.aload_n 0, 1), (.bipush 12, 2), (.newarray .int, 2), (.putfield 176, 3), (.aload_n 0, 1), (.bipush 80, 2), (.newarray .int, 2), (.putfield 179, 3), (.aload_n 0, 1), (.bipush 14, 2), (.newarray .int, 2), (.putfield 182, 3), (.aload_n 0, 1), (.bipush 14, 2), (.newarray .int, 2), (.putfield 185, 3)]
def bk_Md_init_809 : List (Instr × Nat) := [(.aload_n 0, 1), (.bipush 14, 2), (.newarray .int, 2), (.putfield 188, 3), (.aload_n 0, 1), (.bipush 14, 2), (.newarray .int, 2), (.putfield 191, 3), (.aload_n 0, 1), (.bipush 14, 2), (.newarray .boolean, 2), (.putfield 194, 3), (.aload_n 0, 1), (.sipush 1400, 3), (.newarray .int, 2), (.putfield 197, 3), (.aload_n 0, 1), (.sipush 1400, 3), (.newarray .int, 2), (.putfield 200, 3), (.aload_n 0, 1), (.sipush 320, 3), (.newarray .char, 2), (.putfield 203, 3), (.return_, 1)]
theorem ca_Md_init_0 : qz_ca yd_Md_init.2.1 0 bk_Md_init_0 := qz_cab_ok _ _ (by decide +kernel)
theorem ca_Md_init_216 : qz_ca yd_Md_init.2.1 216 bk_Md_init_216 := qz_cab_ok _ _ (by decide +kernel)
theorem ca_Md_init_384 : qz_ca yd_Md_init.2.1 384 bk_Md_init_384 := qz_cab_ok _ _ (by decide +kernel)
theorem ca_Md_init_562 : qz_ca yd_Md_init.2.1 562 bk_Md_init_562 := qz_cab_ok _ _ (by decide +kernel)
theorem ca_Md_init_682 : qz_ca yd_Md_init.2.1 682 bk_Md_init_682 := qz_cab_ok _ _ (by decide +kernel)
theorem ca_Md_init_809 : qz_ca yd_Md_init.2.1 809 bk_Md_init_809 := qz_cab_ok _ _ (by decide +kernel)
set_option maxRecDepth 20000 in
theorem jb_Md_init_809 (G : qz_G) (l0 : Int) (h : qz_H) : qz_J yd_Md_init G bk_Md_init_809 809 [qz_r true 12 l0] [] h 35 1280 (fn_Md_init_809 l0 h) := by
  unfold fn_Md_init_809 bk_Md_init_809; exact
    qz_aload_n rfl <|
    qz_bipush rfl <|
    qz_newa (N := 14) rfl rfl (by decide) rfl rfl rfl (by decide) wa_int rfl fun h1 q2 =>
    qz_putR (k1 := 40) kw_12 fp_Md_188_Md_init rfl rfl fun h3 =>
    qz_aload_n rfl <|
    qz_bipush rfl <|
    qz_newa (N := 14) rfl rfl (by decide) rfl rfl rfl (by decide) wa_int rfl fun h4 q5 =>
    qz_putR (k1 := 40) kw_12 fp_Md_191_Md_init rfl rfl fun h6 =>
    qz_aload_n rfl <|
    qz_bipush rfl <|
    qz_newa (N := 14) rfl rfl (by decide) rfl rfl rfl (by decide) wa_boolean rfl fun h7 q8 =>
    qz_putR (k1 := 44) kw_12 fp_Md_194_Md_init rfl rfl fun h9 =>
    qz_aload_n rfl <|
    qz_sipush rfl <|
    qz_newa (N := 1400) rfl rfl (by decide) rfl rfl rfl (by decide) wa_int rfl fun h10 q11 =>
    qz_putR (k1 := 40) kw_12 fp_Md_197_Md_init rfl rfl fun h12 =>
    qz_aload_n rfl <|
    qz_sipush rfl <|
    qz_newa (N := 1400) rfl rfl (by decide) rfl rfl rfl (by decide) wa_int rfl fun h13 q14 =>
    qz_putR (k1 := 40) kw_12 fp_Md_200_Md_init rfl rfl fun h15 =>
    qz_aload_n rfl <|
    qz_sipush rfl <|
    qz_newa (N := 320) rfl rfl (by decide) rfl rfl rfl (by decide) wa_char rfl fun h16 q17 =>
    qz_putR (k1 := 42) kw_12 fp_Md_203_Md_init rfl rfl fun h18 =>
    qz_return ⟨rfl, rfl⟩ rfl
set_option maxRecDepth 20000 in
theorem jb_Md_init_682 (G : qz_G) (l0 : Int) (h : qz_H) : qz_J yd_Md_init G bk_Md_init_682 682 [qz_r true 12 l0] [] h 19 768 (fn_Md_init_682 l0 h) := by
  unfold fn_Md_init_682 bk_Md_init_682; exact
    qz_aload_n rfl <|
    qz_iconst rfl <|
    qz_newa (N := 4) rfl rfl (by decide) rfl rfl rfl (by decide) wa_int rfl fun h1 q2 =>
    qz_putR (k1 := 40) kw_12 fp_Md_139_Md_init rfl rfl fun h3 =>
    qz_aload_n rfl <|
    qz_bipush rfl <|
    qz_newa (N := 8) rfl rfl (by decide) rfl rfl rfl (by decide) wa_int rfl fun h4 q5 =>
    qz_putR (k1 := 40) kw_12 fp_Md_142_Md_init rfl rfl fun h6 =>
    qz_aload_n rfl <|
    qz_bipush rfl <|
    qz_newa (N := 8) rfl rfl (by decide) rfl rfl rfl (by decide) wa_int rfl fun h7 q8 =>
    qz_putR (k1 := 40) kw_12 fp_Md_145_Md_init rfl rfl fun h9 =>
    qz_aload_n rfl <|
    qz_bipush rfl <|
    qz_newa (N := 100) rfl rfl (by decide) rfl rfl rfl (by decide) wa_int rfl fun h10 q11 =>
    qz_putR (k1 := 40) kw_12 fp_Md_148_Md_init rfl rfl fun h12 =>
    qz_aload_n rfl <|
    qz_bipush rfl <|
    qz_newa (N := 100) rfl rfl (by decide) rfl rfl rfl (by decide) wa_int rfl fun h13 q14 =>
    qz_putR (k1 := 40) kw_12 fp_Md_151_Md_init rfl rfl fun h15 =>
    qz_aload_n rfl <|
    qz_bipush rfl <|
    qz_newa (N := 100) rfl rfl (by decide) rfl rfl rfl (by decide) wa_int rfl fun h16 q17 =>
    qz_putR (k1 := 40) kw_12 fp_Md_154_Md_init rfl rfl fun h18 =>
    qz_aload_n rfl <|
    qz_bipush rfl <|
    qz_newa (N := 12) rfl rfl (by decide) rfl rfl rfl (by decide) wa_int rfl fun h19 q20 =>
    qz_putR (k1 := 40) kw_12 fp_Md_157_Md_init rfl rfl fun h21 =>
    qz_aload_n rfl <|
    qz_bipush rfl <|
    qz_newa (N := 12) rfl rfl (by decide) rfl rfl rfl (by decide) wa_boolean rfl fun h22 q23 =>
    qz_putR (k1 := 44) kw_12 fp_Md_160_Md_init rfl rfl fun h24 =>
    qz_aload_n rfl <|
    qz_bipush rfl <|
    qz_newa (N := 12) rfl rfl (by decide) rfl rfl rfl (by decide) wa_boolean rfl fun h25 q26 =>
    qz_putR (k1 := 44) kw_12 fp_Md_164_Md_init rfl rfl fun h27 =>
    qz_aload_n rfl <|
    qz_bipush rfl <|
    qz_newa (N := 12) rfl rfl (by decide) rfl rfl rfl (by decide) wa_int rfl fun h28 q29 =>
    qz_putR (k1 := 40) kw_12 fp_Md_167_Md_init rfl rfl fun h30 =>
    qz_aload_n rfl <|
    qz_bipush rfl <|
    qz_newa (N := 12) rfl rfl (by decide) rfl rfl rfl (by decide) wa_int rfl fun h31 q32 =>
    qz_putR (k1 := 40) kw_12 fp_Md_170_Md_init rfl rfl fun h33 =>
    qz_aload_n rfl <|
    qz_bipush rfl <|
    qz_newa (N := 12) rfl rfl (by decide) rfl rfl rfl (by decide) wa_long rfl fun h34 q35 =>
    qz_putR (k1 := 41) kw_12 fp_Md_173_Md_init rfl rfl fun h36 =>
    qz_aload_n rfl <|
    qz_bipush rfl <|
    qz_newa (N := 12) rfl rfl (by decide) rfl rfl rfl (by decide) wa_int rfl fun h37 q38 =>
    qz_putR (k1 := 40) kw_12 fp_Md_176_Md_init rfl rfl fun h39 =>
    qz_aload_n rfl <|
    qz_bipush rfl <|
    qz_newa (N := 80) rfl rfl (by decide) rfl rfl rfl (by decide) wa_int rfl fun h40 q41 =>
    qz_putR (k1 := 40) kw_12 fp_Md_179_Md_init rfl rfl fun h42 =>
    qz_aload_n rfl <|
    qz_bipush rfl <|
    qz_newa (N := 14) rfl rfl (by decide) rfl rfl rfl (by decide) wa_int rfl fun h43 q44 =>
    qz_putR (k1 := 40) kw_12 fp_Md_182_Md_init rfl rfl fun h45 =>
    qz_aload_n rfl <|
    qz_bipush rfl <|
    qz_newa (N := 14) rfl rfl (by decide) rfl rfl rfl (by decide) wa_int rfl fun h46 q47 =>
    qz_putR (k1 := 40) kw_12 fp_Md_185_Md_init rfl rfl fun h48 =>
    qz_fall rfl ca_Md_init_809 <|
    qz_fgt [1] <| jb_Md_init_809 G l0 h48
set_option maxRecDepth 20000 in
theorem jb_Md_init_562 (G : qz_G) (l0 : Int) (h : qz_H) : qz_J yd_Md_init G bk_Md_init_562 562 [qz_r true 12 l0] [] h 3 90 (fn_Md_init_562 l0 h) := by
  unfold fn_Md_init_562 bk_Md_init_562; exact
    qz_aload_n rfl <|
    qz_sipush rfl <|
    qz_newa (N := 320) rfl rfl (by decide) rfl rfl rfl (by decide) wa_char rfl fun h1 q2 =>
    qz_putR (k1 := 42) kw_12 fp_Md_90_Md_init rfl rfl fun h3 =>
    qz_aload_n rfl <|
    qz_iconst rfl <|
    qz_newa (N := 4) rfl rfl (by decide) rfl rfl rfl (by decide) wa_int rfl fun h4 q5 =>
    qz_putR (k1 := 40) kw_12 fp_Md_94_Md_init rfl rfl fun h6 =>
    qz_aload_n rfl <|
    qz_iconst rfl <|
    qz_newa (N := 4) rfl rfl (by decide) rfl rfl rfl (by decide) wa_int rfl fun h7 q8 =>
    qz_putR (k1 := 40) kw_12 fp_Md_97_Md_init rfl rfl fun h9 =>
    qz_aload_n rfl <|
    qz_iconst rfl <|
    qz_newa (N := 4) rfl rfl (by decide) rfl rfl rfl (by decide) wa_int rfl fun h10 q11 =>
    qz_putR (k1 := 40) kw_12 fp_Md_100_Md_init rfl rfl fun h12 =>
    qz_aload_n rfl <|
    qz_bipush rfl <|
    qz_newa (N := 32) rfl rfl (by decide) rfl rfl rfl (by decide) wa_int rfl fun h13 q14 =>
    qz_putR (k1 := 40) kw_12 fp_Md_103_Md_init rfl rfl fun h15 =>
    qz_aload_n rfl <|
    qz_iconst rfl <|
    qz_newa (N := 5) rfl rfl (by decide) rfl rfl rfl (by decide) wa_int rfl fun h16 q17 =>
    qz_putR (k1 := 40) kw_12 fp_Md_106_Md_init rfl rfl fun h18 =>
    qz_aload_n rfl <|
    qz_bipush rfl <|
    qz_newa (N := 64) rfl rfl (by decide) rfl rfl rfl (by decide) wa_int rfl fun h19 q20 =>
    qz_putR (k1 := 40) kw_12 fp_Md_109_Md_init rfl rfl fun h21 =>
    qz_aload_n rfl <|
    qz_bipush rfl <|
    qz_newa (N := 64) rfl rfl (by decide) rfl rfl rfl (by decide) wa_long rfl fun h22 q23 =>
    qz_putR (k1 := 41) kw_12 fp_Md_112_Md_init rfl rfl fun h24 =>
    qz_aload_n rfl <|
    qz_iconst rfl <|
    qz_newa (N := 4) rfl rfl (by decide) rfl rfl rfl (by decide) wa_int rfl fun h25 q26 =>
    qz_putR (k1 := 40) kw_12 fp_Md_115_Md_init rfl rfl fun h27 =>
    qz_aload_n rfl <|
    qz_iconst rfl <|
    qz_newa (N := 4) rfl rfl (by decide) rfl rfl rfl (by decide) wa_int rfl fun h28 q29 =>
    qz_putR (k1 := 40) kw_12 fp_Md_118_Md_init rfl rfl fun h30 =>
    qz_aload_n rfl <|
    qz_iconst rfl <|
    qz_newa (N := 4) rfl rfl (by decide) rfl rfl rfl (by decide) wa_int rfl fun h31 q32 =>
    qz_putR (k1 := 40) kw_12 fp_Md_121_Md_init rfl rfl fun h33 =>
    qz_aload_n rfl <|
    qz_bipush rfl <|
    qz_newa (N := 32) rfl rfl (by decide) rfl rfl rfl (by decide) wa_int rfl fun h34 q35 =>
    qz_putR (k1 := 40) kw_12 fp_Md_124_Md_init rfl rfl fun h36 =>
    qz_aload_n rfl <|
    qz_iconst rfl <|
    qz_newa (N := 5) rfl rfl (by decide) rfl rfl rfl (by decide) wa_int rfl fun h37 q38 =>
    qz_putR (k1 := 40) kw_12 fp_Md_127_Md_init rfl rfl fun h39 =>
    qz_aload_n rfl <|
    qz_bipush rfl <|
    qz_newa (N := 64) rfl rfl (by decide) rfl rfl rfl (by decide) wa_int rfl fun h40 q41 =>
    qz_putR (k1 := 40) kw_12 fp_Md_130_Md_init rfl rfl fun h42 =>
    qz_aload_n rfl <|
    qz_bipush rfl <|
    qz_newa (N := 64) rfl rfl (by decide) rfl rfl rfl (by decide) wa_long rfl fun h43 q44 =>
    qz_putR (k1 := 41) kw_12 fp_Md_133_Md_init rfl rfl fun h45 =>
    qz_aload_n rfl <|
    qz_iconst rfl <|
    qz_newa (N := 4) rfl rfl (by decide) rfl rfl rfl (by decide) wa_int rfl fun h46 q47 =>
    qz_putR (k1 := 40) kw_12 fp_Md_136_Md_init rfl rfl fun h48 =>
    qz_fall rfl ca_Md_init_682 <|
    qz_fgt [1] <| jb_Md_init_682 G l0 h48
set_option maxRecDepth 20000 in
theorem jb_Md_init_384 (G : qz_G) (l0 : Int) (h : qz_H) : qz_J yd_Md_init G bk_Md_init_384 384 [qz_r true 12 l0] [] h 2 60 (fn_Md_init_384 l0 h) := by
  unfold fn_Md_init_384 bk_Md_init_384; exact
    qz_aload_n rfl <|
    qz_bipush rfl <|
    qz_newa (N := 30) rfl rfl (by decide) rfl rfl rfl (by decide) wa_int rfl fun h1 q2 =>
    qz_dup rfl <|
    qz_iconst rfl <|
    qz_iconst rfl <|
    qz_iast rfl rfl rfl fun h3 =>
    qz_dup rfl <|
    qz_iconst rfl <|
    qz_iconst rfl <|
    qz_iast rfl rfl rfl fun h4 =>
    qz_dup rfl <|
    qz_iconst rfl <|
    qz_iconst rfl <|
    qz_iast rfl rfl rfl fun h5 =>
    qz_dup rfl <|
    qz_iconst rfl <|
    qz_iconst rfl <|
    qz_iast rfl rfl rfl fun h6 =>
    qz_dup rfl <|
    qz_iconst rfl <|
    qz_iconst rfl <|
    qz_iast rfl rfl rfl fun h7 =>
    qz_dup rfl <|
    qz_iconst rfl <|
    qz_iconst rfl <|
    qz_iast rfl rfl rfl fun h8 =>
    qz_dup rfl <|
    qz_bipush rfl <|
    qz_bipush rfl <|
    qz_iast rfl rfl rfl fun h9 =>
    qz_dup rfl <|
    qz_bipush rfl <|
    qz_bipush rfl <|
    qz_iast rfl rfl rfl fun h10 =>
    qz_dup rfl <|
    qz_bipush rfl <|
    qz_bipush rfl <|
    qz_iast rfl rfl rfl fun h11 =>
    qz_dup rfl <|
    qz_bipush rfl <|
    qz_bipush rfl <|
    qz_iast rfl rfl rfl fun h12 =>
    qz_dup rfl <|
    qz_bipush rfl <|
    qz_bipush rfl <|
    qz_iast rfl rfl rfl fun h13 =>
    qz_dup rfl <|
    qz_bipush rfl <|
    qz_bipush rfl <|
    qz_iast rfl rfl rfl fun h14 =>
    qz_dup rfl <|
    qz_bipush rfl <|
    qz_bipush rfl <|
    qz_iast rfl rfl rfl fun h15 =>
    qz_dup rfl <|
    qz_bipush rfl <|
    qz_bipush rfl <|
    qz_iast rfl rfl rfl fun h16 =>
    qz_dup rfl <|
    qz_bipush rfl <|
    qz_bipush rfl <|
    qz_iast rfl rfl rfl fun h17 =>
    qz_dup rfl <|
    qz_bipush rfl <|
    qz_bipush rfl <|
    qz_iast rfl rfl rfl fun h18 =>
    qz_dup rfl <|
    qz_bipush rfl <|
    qz_bipush rfl <|
    qz_iast rfl rfl rfl fun h19 =>
    qz_dup rfl <|
    qz_bipush rfl <|
    qz_bipush rfl <|
    qz_iast rfl rfl rfl fun h20 =>
    qz_dup rfl <|
    qz_bipush rfl <|
    qz_bipush rfl <|
    qz_iast rfl rfl rfl fun h21 =>
    qz_dup rfl <|
    qz_bipush rfl <|
    qz_bipush rfl <|
    qz_iast rfl rfl rfl fun h22 =>
    qz_dup rfl <|
    qz_bipush rfl <|
    qz_bipush rfl <|
    qz_iast rfl rfl rfl fun h23 =>
    qz_dup rfl <|
    qz_bipush rfl <|
    qz_bipush rfl <|
    qz_iast rfl rfl rfl fun h24 =>
    qz_dup rfl <|
    qz_bipush rfl <|
    qz_bipush rfl <|
    qz_iast rfl rfl rfl fun h25 =>
    qz_dup rfl <|
    qz_bipush rfl <|
    qz_bipush rfl <|
    qz_iast rfl rfl rfl fun h26 =>
    qz_dup rfl <|
    qz_bipush rfl <|
    qz_bipush rfl <|
    qz_iast rfl rfl rfl fun h27 =>
    qz_dup rfl <|
    qz_bipush rfl <|
    qz_bipush rfl <|
    qz_iast rfl rfl rfl fun h28 =>
    qz_dup rfl <|
    qz_bipush rfl <|
    qz_bipush rfl <|
    qz_iast rfl rfl rfl fun h29 =>
    qz_dup rfl <|
    qz_bipush rfl <|
    qz_bipush rfl <|
    qz_iast rfl rfl rfl fun h30 =>
    qz_dup rfl <|
    qz_bipush rfl <|
    qz_sipush rfl <|
    qz_iast rfl rfl rfl fun h31 =>
    qz_dup rfl <|
    qz_bipush rfl <|
    qz_sipush rfl <|
    qz_iast rfl rfl rfl fun h32 =>
    qz_putR (k1 := 40) kw_12 fp_Md_86_Md_init rfl rfl fun h33 =>
    qz_fall rfl ca_Md_init_562 <|
    qz_fgt [1] <| jb_Md_init_562 G l0 h33
set_option maxRecDepth 20000 in
theorem jb_Md_init_216 (G : qz_G) (l0 : Int) (h : qz_H) : qz_J yd_Md_init G bk_Md_init_216 216 [qz_r true 12 l0] [] h 1 30 (fn_Md_init_216 l0 h) := by
  unfold fn_Md_init_216 bk_Md_init_216; exact
    qz_aload_n rfl <|
    qz_bipush rfl <|
    qz_newa (N := 30) rfl rfl (by decide) rfl rfl rfl (by decide) wa_long rfl fun h1 q2 =>
    qz_dup rfl <|
    qz_iconst rfl <|
    qz_ldc2 wc_Md_73 rfl <|
    qz_last rfl rfl rfl fun h3 =>
    qz_dup rfl <|
    qz_iconst rfl <|
    qz_lconst rfl <|
    qz_last rfl rfl rfl fun h4 =>
    qz_dup rfl <|
    qz_iconst rfl <|
    qz_lconst rfl <|
    qz_last rfl rfl rfl fun h5 =>
    qz_dup rfl <|
    qz_iconst rfl <|
    qz_lconst rfl <|
    qz_last rfl rfl rfl fun h6 =>
    qz_dup rfl <|
    qz_iconst rfl <|
    qz_lconst rfl <|
    qz_last rfl rfl rfl fun h7 =>
    qz_dup rfl <|
    qz_iconst rfl <|
    qz_lconst rfl <|
    qz_last rfl rfl rfl fun h8 =>
    qz_dup rfl <|
    qz_bipush rfl <|
    qz_lconst rfl <|
    qz_last rfl rfl rfl fun h9 =>
    qz_dup rfl <|
    qz_bipush rfl <|
    qz_lconst rfl <|
    qz_last rfl rfl rfl fun h10 =>
    qz_dup rfl <|
    qz_bipush rfl <|
    qz_lconst rfl <|
    qz_last rfl rfl rfl fun h11 =>
    qz_dup rfl <|
    qz_bipush rfl <|
    qz_lconst rfl <|
    qz_last rfl rfl rfl fun h12 =>
    qz_dup rfl <|
    qz_bipush rfl <|
    qz_lconst rfl <|
    qz_last rfl rfl rfl fun h13 =>
    qz_dup rfl <|
    qz_bipush rfl <|
    qz_lconst rfl <|
    qz_last rfl rfl rfl fun h14 =>
    qz_dup rfl <|
    qz_bipush rfl <|
    qz_lconst rfl <|
    qz_last rfl rfl rfl fun h15 =>
    qz_dup rfl <|
    qz_bipush rfl <|
    qz_ldc2 wc_Md_75 rfl <|
    qz_last rfl rfl rfl fun h16 =>
    qz_dup rfl <|
    qz_bipush rfl <|
    qz_ldc2 wc_Md_75 rfl <|
    qz_last rfl rfl rfl fun h17 =>
    qz_dup rfl <|
    qz_bipush rfl <|
    qz_ldc2 wc_Md_77 rfl <|
    qz_last rfl rfl rfl fun h18 =>
    qz_dup rfl <|
    qz_bipush rfl <|
    qz_ldc2 wc_Md_75 rfl <|
    qz_last rfl rfl rfl fun h19 =>
    qz_dup rfl <|
    qz_bipush rfl <|
    qz_ldc2 wc_Md_75 rfl <|
    qz_last rfl rfl rfl fun h20 =>
    qz_dup rfl <|
    qz_bipush rfl <|
    qz_lconst rfl <|
    qz_last rfl rfl rfl fun h21 =>
    qz_dup rfl <|
    qz_bipush rfl <|
    qz_lconst rfl <|
    qz_last rfl rfl rfl fun h22 =>
    qz_dup rfl <|
    qz_bipush rfl <|
    qz_lconst rfl <|
    qz_last rfl rfl rfl fun h23 =>
    qz_dup rfl <|
    qz_bipush rfl <|
    qz_lconst rfl <|
    qz_last rfl rfl rfl fun h24 =>
    qz_dup rfl <|
    qz_bipush rfl <|
    qz_lconst rfl <|
    qz_last rfl rfl rfl fun h25 =>
    qz_dup rfl <|
    qz_bipush rfl <|
    qz_lconst rfl <|
    qz_last rfl rfl rfl fun h26 =>
    qz_dup rfl <|
    qz_bipush rfl <|
    qz_lconst rfl <|
    qz_last rfl rfl rfl fun h27 =>
    qz_dup rfl <|
    qz_bipush rfl <|
    qz_lconst rfl <|
    qz_last rfl rfl rfl fun h28 =>
    qz_dup rfl <|
    qz_bipush rfl <|
    qz_lconst rfl <|
    qz_last rfl rfl rfl fun h29 =>
    qz_dup rfl <|
    qz_bipush rfl <|
    qz_lconst rfl <|
    qz_last rfl rfl rfl fun h30 =>
    qz_dup rfl <|
    qz_bipush rfl <|
    qz_ldc2 wc_Md_79 rfl <|
    qz_last rfl rfl rfl fun h31 =>
    qz_dup rfl <|
    qz_bipush rfl <|
    qz_ldc2 wc_Md_81 rfl <|
    qz_last rfl rfl rfl fun h32 =>
    qz_putR (k1 := 41) kw_12 fp_Md_83_Md_init rfl rfl fun h33 =>
    qz_fall rfl ca_Md_init_384 <|
    qz_fgt [1] <| jb_Md_init_384 G l0 h33
set_option maxRecDepth 20000 in
theorem cn_Md_init (l0 : Int) (h : qz_H) : qz_C yd_Md_init [qz_r true 12 l0] h (fn_Md_init l0 h) := by
  refine qz_con (is := bk_Md_init_0) (ls := [qz_r true 12 l0]) mw_Md_init.2.2.2 ca_Md_init_0 rfl rfl rfl fun G => ?_
  unfold fn_Md_init bk_Md_init_0; exact
    qz_aload_n rfl <|
    qz_objI oi_Md_1 rfl <|
    qz_aload_n rfl <|
    qz_bipush rfl <|
    qz_newa (N := 30) rfl rfl (by decide) rfl rfl rfl (by decide) wa_long rfl fun h1 q2 =>
    qz_dup rfl <|
    qz_iconst rfl <|
    qz_ldc2 wc_Md_7 rfl <|
    qz_last rfl rfl rfl fun h3 =>
    qz_dup rfl <|
    qz_iconst rfl <|
    qz_ldc2 wc_Md_9 rfl <|
    qz_last rfl rfl rfl fun h4 =>
    qz_dup rfl <|
    qz_iconst rfl <|
    qz_ldc2 wc_Md_11 rfl <|
    qz_last rfl rfl rfl fun h5 =>
    qz_dup rfl <|
    qz_iconst rfl <|
    qz_ldc2 wc_Md_13 rfl <|
    qz_last rfl rfl rfl fun h6 =>
    qz_dup rfl <|
    qz_iconst rfl <|
    qz_ldc2 wc_Md_15 rfl <|
    qz_last rfl rfl rfl fun h7 =>
    qz_dup rfl <|
    qz_iconst rfl <|
    qz_ldc2 wc_Md_17 rfl <|
    qz_last rfl rfl rfl fun h8 =>
    qz_dup rfl <|
    qz_bipush rfl <|
    qz_ldc2 wc_Md_19 rfl <|
    qz_last rfl rfl rfl fun h9 =>
    qz_dup rfl <|
    qz_bipush rfl <|
    qz_ldc2 wc_Md_21 rfl <|
    qz_last rfl rfl rfl fun h10 =>
    qz_dup rfl <|
    qz_bipush rfl <|
    qz_ldc2 wc_Md_23 rfl <|
    qz_last rfl rfl rfl fun h11 =>
    qz_dup rfl <|
    qz_bipush rfl <|
    qz_ldc2 wc_Md_25 rfl <|
    qz_last rfl rfl rfl fun h12 =>
    qz_dup rfl <|
    qz_bipush rfl <|
    qz_ldc2 wc_Md_27 rfl <|
    qz_last rfl rfl rfl fun h13 =>
    qz_dup rfl <|
    qz_bipush rfl <|
    qz_ldc2 wc_Md_29 rfl <|
    qz_last rfl rfl rfl fun h14 =>
    qz_dup rfl <|
    qz_bipush rfl <|
    qz_ldc2 wc_Md_31 rfl <|
    qz_last rfl rfl rfl fun h15 =>
    qz_dup rfl <|
    qz_bipush rfl <|
    qz_ldc2 wc_Md_33 rfl <|
    qz_last rfl rfl rfl fun h16 =>
    qz_dup rfl <|
    qz_bipush rfl <|
    qz_ldc2 wc_Md_35 rfl <|
    qz_last rfl rfl rfl fun h17 =>
    qz_dup rfl <|
    qz_bipush rfl <|
    qz_ldc2 wc_Md_37 rfl <|
    qz_last rfl rfl rfl fun h18 =>
    qz_dup rfl <|
    qz_bipush rfl <|
    qz_ldc2 wc_Md_39 rfl <|
    qz_last rfl rfl rfl fun h19 =>
    qz_dup rfl <|
    qz_bipush rfl <|
    qz_ldc2 wc_Md_41 rfl <|
    qz_last rfl rfl rfl fun h20 =>
    qz_dup rfl <|
    qz_bipush rfl <|
    qz_ldc2 wc_Md_43 rfl <|
    qz_last rfl rfl rfl fun h21 =>
    qz_dup rfl <|
    qz_bipush rfl <|
    qz_ldc2 wc_Md_45 rfl <|
    qz_last rfl rfl rfl fun h22 =>
    qz_dup rfl <|
    qz_bipush rfl <|
    qz_ldc2 wc_Md_47 rfl <|
    qz_last rfl rfl rfl fun h23 =>
    qz_dup rfl <|
    qz_bipush rfl <|
    qz_ldc2 wc_Md_49 rfl <|
    qz_last rfl rfl rfl fun h24 =>
    qz_dup rfl <|
    qz_bipush rfl <|
    qz_ldc2 wc_Md_51 rfl <|
    qz_last rfl rfl rfl fun h25 =>
    qz_dup rfl <|
    qz_bipush rfl <|
    qz_ldc2 wc_Md_53 rfl <|
    qz_last rfl rfl rfl fun h26 =>
    qz_dup rfl <|
    qz_bipush rfl <|
    qz_ldc2 wc_Md_55 rfl <|
    qz_last rfl rfl rfl fun h27 =>
    qz_dup rfl <|
    qz_bipush rfl <|
    qz_ldc2 wc_Md_57 rfl <|
    qz_last rfl rfl rfl fun h28 =>
    qz_dup rfl <|
    qz_bipush rfl <|
    qz_ldc2 wc_Md_59 rfl <|
    qz_last rfl rfl rfl fun h29 =>
    qz_dup rfl <|
    qz_bipush rfl <|
    qz_ldc2 wc_Md_61 rfl <|
    qz_last rfl rfl rfl fun h30 =>
    qz_dup rfl <|
    qz_bipush rfl <|
    qz_ldc2 wc_Md_63 rfl <|
    qz_last rfl rfl rfl fun h31 =>
    qz_dup rfl <|
    qz_bipush rfl <|
    qz_ldc2 wc_Md_65 rfl <|
    qz_last rfl rfl rfl fun h32 =>
    qz_putR (k1 := 41) kw_12 fp_Md_67_Md_init rfl rfl fun h33 =>
    qz_fall rfl ca_Md_init_216 <|
    qz_fgt [1] <| jb_Md_init_216 G l0 h33
set_option maxRecDepth 20000 in
def fn_Md_thrown (l0 : Int) (h : qz_H) : Option qz_R :=
  some (h l0 3, h)
def bk_Md_thrown_0 : List (Instr × Nat) := [(.aload_n 0, 1), (.getfield 206, 3), (.ireturn, 1)]
theorem ca_Md_thrown_0 : qz_ca yd_Md_thrown.2.1 0 bk_Md_thrown_0 := qz_cab_ok _ _ (by decide +kernel)
set_option maxRecDepth 20000 in
theorem cn_Md_thrown (l0 : Int) (h : qz_H) : qz_C yd_Md_thrown [qz_r true 12 l0] h (fn_Md_thrown l0 h) := by
  refine qz_con (is := bk_Md_thrown_0) (ls := [qz_r true 12 l0]) mw_Md_thrown.2.2.2 ca_Md_thrown_0 rfl rfl rfl fun G => ?_
  unfold fn_Md_thrown bk_Md_thrown_0; exact
    qz_aload_n rfl <|
    qz_getI kg_12 fl_Md_206 rfl rfl <|
    qz_ireturn ⟨rfl, rfl⟩ rfl
set_option maxRecDepth 20000 in
def fn_Md_raise (l0 : Int) (l1 : Int) (h : qz_H) : Option qz_R :=
  qz_ck ((0 : Int) < l0) <|
  qz_bn (qz_up h l0 3 l1) fun h1 =>
  some (0, h1)
def bk_Md_raise_0 : List (Instr × Nat) := [(.aload_n 0, 1), (.iload_n 1, 1), (.putfield 206, 3), (.iconst 0, 1), (.ireturn, 1)]
theorem ca_Md_raise_0 : qz_ca yd_Md_raise.2.1 0 bk_Md_raise_0 := qz_cab_ok _ _ (by decide +kernel)
set_option maxRecDepth 20000 in
theorem cn_Md_raise (l0 : Int) (l1 : Int) (h : qz_H) : qz_C yd_Md_raise [qz_r true 12 l0, qz_i l1] h (fn_Md_raise l0 l1 h) := by
  refine qz_con (is := bk_Md_raise_0) (ls := [qz_r true 12 l0, qz_i l1]) mw_Md_raise.2.2.2 ca_Md_raise_0 rfl rfl rfl fun G => ?_
  unfold fn_Md_raise bk_Md_raise_0; exact
    qz_aload_n rfl <|
    qz_iload_n rfl <|
    qz_putI kw_12 fp_Md_206_Md_raise rfl rfl fun h1 =>
    qz_iconst rfl <|
    qz_ireturn ⟨rfl, rfl⟩ rfl
