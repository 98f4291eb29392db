def fn_Md_init (l0 : Int) (h : qz_H) : Option qz_R :=
  qz_mk h 41 30 fun h1 q2 =>
  qz_ck (0 < q2 ∧ (0 : Int) ≤ 0 ∧ 0 < h1 q2 (-1)) <|
  qz_bn (qz_up h1 q2 0 8461826529626908769) fun h3 =>
  qz_ck (0 < q2 ∧ (0 : Int) ≤ 1 ∧ 1 < h3 q2 (-1)) <|
  qz_bn (qz_up h3 q2 1 7237488) fun h4 =>
  qz_ck (0 < q2 ∧ (0 : Int) ≤ 2 ∧ 2 < h4 q2 (-1)) <|
  qz_bn (qz_up h4 q2 2 422726034283) fun h5 =>
  qz_ck (0 < q2 ∧ (0 : Int) ≤ 3 ∧ 3 < h5 q2 (-1)) <|
  qz_bn (qz_up h5 q2 3 1819242352) fun h6 =>
  qz_ck (0 < q2 ∧ (0 : Int) ≤ 4 ∧ 4 < h6 q2 (-1)) <|
  qz_bn (qz_up h6 q2 4 26982) fun h7 =>
  qz_ck (0 < q2 ∧ (0 : Int) ≤ 5 ∧ 5 < h7 q2 (-1)) <|
  qz_bn (qz_up h7 q2 5 1701606245) fun h8 =>
  qz_ck (0 < q2 ∧ (0 : Int) ≤ 6 ∧ 6 < h8 q2 (-1)) <|
  qz_bn (qz_up h8 q2 6 6647396) fun h9 =>
  qz_ck (0 < q2 ∧ (0 : Int) ≤ 7 ∧ 7 < h9 q2 (-1)) <|
  qz_bn (qz_up h9 q2 7 25202) fun h10 =>
  qz_ck (0 < q2 ∧ (0 : Int) ≤ 8 ∧ 8 < h10 q2 (-1)) <|
  qz_bn (qz_up h10 q2 8 422825650534) fun h11 =>
  qz_ck (0 < q2 ∧ (0 : Int) ≤ 9 ∧ 9 < h11 q2 (-1)) <|
  qz_bn (qz_up h11 q2 9 125780071117422) fun h12 =>
  qz_ck (0 < q2 ∧ (0 : Int) ≤ 10 ∧ 10 < h12 q2 (-1)) <|
  qz_bn (qz_up h12 q2 10 1667329132) fun h13 =>
  qz_ck (0 < q2 ∧ (0 : Int) ≤ 11 ∧ 11 < h13 q2 (-1)) <|
  qz_bn (qz_up h13 q2 11 1685221232) fun h14 =>
  qz_ck (0 < q2 ∧ (0 : Int) ≤ 12 ∧ 12 < h14 q2 (-1)) <|
  qz_bn (qz_up h14 q2 12 126879447475060) fun h15 =>
  qz_ck (0 < q2 ∧ (0 : Int) ≤ 13 ∧ 13 < h15 q2 (-1)) <|
  qz_bn (qz_up h15 q2 13 7813573148589057893) fun h16 =>
  qz_ck (0 < q2 ∧ (0 : Int) ≤ 14 ∧ 14 < h16 q2 (-1)) <|
  qz_bn (qz_up h16 q2 14 7813573148589060965) fun h17 =>
  qz_ck (0 < q2 ∧ (0 : Int) ≤ 15 ∧ 15 < h17 q2 (-1)) <|
  qz_bn (qz_up h17 q2 15 7813573148589061221) fun h18 =>
  qz_ck (0 < q2 ∧ (0 : Int) ≤ 16 ∧ 16 < h18 q2 (-1)) <|
  qz_bn (qz_up h18 q2 16 7580457772612808307) fun h19 =>
  qz_ck (0 < q2 ∧ (0 : Int) ≤ 17 ∧ 17 < h19 q2 (-1)) <|
  qz_bn (qz_up h19 q2 17 7581304396566195827) fun h20 =>
  qz_ck (0 < q2 ∧ (0 : Int) ≤ 18 ∧ 18 < h20 q2 (-1)) <|
  qz_bn (qz_up h20 q2 18 29611163174400378) fun h21 =>
  qz_ck (0 < q2 ∧ (0 : Int) ≤ 19 ∧ 19 < h21 q2 (-1)) <|
  qz_bn (qz_up h21 q2 19 115668606150001) fun h22 =>
  qz_ck (0 < q2 ∧ (0 : Int) ≤ 20 ∧ 20 < h22 q2 (-1)) <|
  qz_bn (qz_up h22 q2 20 7580457772764127091) fun h23 =>
  qz_ck (0 < q2 ∧ (0 : Int) ≤ 21 ∧ 21 < h23 q2 (-1)) <|
  qz_bn (qz_up h23 q2 21 29611163174134884) fun h24 =>
  qz_ck (0 < q2 ∧ (0 : Int) ≤ 22 ∧ 22 < h24 q2 (-1)) <|
  qz_bn (qz_up h24 q2 22 29611163175318882) fun h25 =>
  qz_ck (0 < q2 ∧ (0 : Int) ≤ 23 ∧ 23 < h25 q2 (-1)) <|
  qz_bn (qz_up h25 q2 23 29611163174925676) fun h26 =>
  qz_ck (0 < q2 ∧ (0 : Int) ≤ 24 ∧ 24 < h26 q2 (-1)) <|
  qz_bn (qz_up h26 q2 24 29614470299218298) fun h27 =>
  qz_ck (0 < q2 ∧ (0 : Int) ≤ 25 ∧ 25 < h27 q2 (-1)) <|
  qz_bn (qz_up h27 q2 25 115681524606321) fun h28 =>
  qz_ck (0 < q2 ∧ (0 : Int) ≤ 26 ∧ 26 < h28 q2 (-1)) <|
  qz_bn (qz_up h28 q2 26 29614470298952804) fun h29 =>
  qz_ck (0 < q2 ∧ (0 : Int) ≤ 27 ∧ 27 < h29 q2 (-1)) <|
  qz_bn (qz_up h29 q2 27 29614470299743596) fun h30 =>
  qz_ck (0 < q2 ∧ (0 : Int) ≤ 28 ∧ 28 < h30 q2 (-1)) <|
  qz_bn (qz_up h30 q2 28 7580457772948545904) fun h31 =>
  qz_ck (0 < q2 ∧ (0 : Int) ≤ 29 ∧ 29 < h31 q2 (-1)) <|
  qz_bn (qz_up h31 q2 29 7581304396600341605) fun h32 =>
  qz_ck ((0 : Int) < l0) <|
  qz_bn (qz_up h32 l0 0 q2) fun h33 =>
  qz_mk h33 41 30 fun h34 q35 =>
  qz_ck (0 < q35 ∧ (0 : Int) ≤ 0 ∧ 0 < h34 q35 (-1)) <|
  qz_bn (qz_up h34 q35 0 6450277) fun h36 =>
  qz_ck (0 < q35 ∧ (0 : Int) ≤ 1 ∧ 1 < h36 q35 (-1)) <|
  qz_bn (qz_up h36 q35 1 0) fun h37 =>
  qz_ck (0 < q35 ∧ (0 : Int) ≤ 2 ∧ 2 < h37 q35 (-1)) <|
  qz_bn (qz_up h37 q35 2 0) fun h38 =>
  qz_ck (0 < q35 ∧ (0 : Int) ≤ 3 ∧ 3 < h38 q35 (-1)) <|
  qz_bn (qz_up h38 q35 3 0) fun h39 =>
  qz_ck (0 < q35 ∧ (0 : Int) ≤ 4 ∧ 4 < h39 q35 (-1)) <|
  qz_bn (qz_up h39 q35 4 0) fun h40 =>
  qz_ck (0 < q35 ∧ (0 : Int) ≤ 5 ∧ 5 < h40 q35 (-1)) <|
  qz_bn (qz_up h40 q35 5 0) fun h41 =>
  qz_ck (0 < q35 ∧ (0 : Int) ≤ 6 ∧ 6 < h41 q35 (-1)) <|
  qz_bn (qz_up h41 q35 6 0) fun h42 =>
  qz_ck (0 < q35 ∧ (0 : Int) ≤ 7 ∧ 7 < h42 q35 (-1)) <|
  qz_bn (qz_up h42 q35 7 0) fun h43 =>
  qz_ck (0 < q35 ∧ (0 : Int) ≤ 8 ∧ 8 < h43 q35 (-1)) <|
  qz_bn (qz_up h43 q35 8 0) fun h44 =>
  qz_ck (0 < q35 ∧ (0 : Int) ≤ 9 ∧ 9 < h44 q35 (-1)) <|
  qz_bn (qz_up h44 q35 9 0) fun h45 =>
  qz_ck (0 < q35 ∧ (0 : Int) ≤ 10 ∧ 10 < h45 q35 (-1)) <|
  qz_bn (qz_up h45 q35 10 0) fun h46 =>
  qz_ck (0 < q35 ∧ (0 : Int) ≤ 11 ∧ 11 < h46 q35 (-1)) <|
  qz_bn (qz_up h46 q35 11 0) fun h47 =>
  qz_ck (0 < q35 ∧ (0 : Int) ≤ 12 ∧ 12 < h47 q35 (-1)) <|
  qz_bn (qz_up h47 q35 12 0) fun h48 =>
  qz_ck (0 < q35 ∧ (0 : Int) ≤ 13 ∧ 13 < h48 q35 (-1)) <|
  qz_bn (qz_up h48 q35 13 116) fun h49 =>
  qz_ck (0 < q35 ∧ (0 : Int) ≤ 14 ∧ 14 < h49 q35 (-1)) <|
  qz_bn (qz_up h49 q35 14 116) fun h50 =>
  qz_ck (0 < q35 ∧ (0 : Int) ≤ 15 ∧ 15 < h50 q35 (-1)) <|
  qz_bn (qz_up h50 q35 15 101) fun h51 =>
  qz_ck (0 < q35 ∧ (0 : Int) ≤ 16 ∧ 16 < h51 q35 (-1)) <|
  qz_bn (qz_up h51 q35 16 116) fun h52 =>
  qz_ck (0 < q35 ∧ (0 : Int) ≤ 17 ∧ 17 < h52 q35 (-1)) <|
  qz_bn (qz_up h52 q35 17 116) fun h53 =>
  qz_ck (0 < q35 ∧ (0 : Int) ≤ 18 ∧ 18 < h53 q35 (-1)) <|
  qz_bn (qz_up h53 q35 18 0) fun h54 =>
  qz_ck (0 < q35 ∧ (0 : Int) ≤ 19 ∧ 19 < h54 q35 (-1)) <|
  qz_bn (qz_up h54 q35 19 0) fun h55 =>
  qz_ck (0 < q35 ∧ (0 : Int) ≤ 20 ∧ 20 < h55 q35 (-1)) <|
  qz_bn (qz_up h55 q35 20 0) fun h56 =>
  qz_ck (0 < q35 ∧ (0 : Int) ≤ 21 ∧ 21 < h56 q35 (-1)) <|
  qz_bn (qz_up h56 q35 21 0) fun h57 =>
  qz_ck (0 < q35 ∧ (0 : Int) ≤ 22 ∧ 22 < h57 q35 (-1)) <|
  qz_bn (qz_up h57 q35 22 0) fun h58 =>
  qz_ck (0 < q35 ∧ (0 : Int) ≤ 23 ∧ 23 < h58 q35 (-1)) <|
  qz_bn (qz_up h58 q35 23 0) fun h59 =>
  qz_ck (0 < q35 ∧ (0 : Int) ≤ 24 ∧ 24 < h59 q35 (-1)) <|
  qz_bn (qz_up h59 q35 24 0) fun h60 =>
  qz_ck (0 < q35 ∧ (0 : Int) ≤ 25 ∧ 25 < h60 q35 (-1)) <|
  qz_bn (qz_up h60 q35 25 0) fun h61 =>
  qz_ck (0 < q35 ∧ (0 : Int) ≤ 26 ∧ 26 < h61 q35 (-1)) <|
  qz_bn (qz_up h61 q35 26 0) fun h62 =>
  qz_ck (0 < q35 ∧ (0 : Int) ≤ 27 ∧ 27 < h62 q35 (-1)) <|
  qz_bn (qz_up h62 q35 27 0) fun h63 =>
  qz_ck (0 < q35 ∧ (0 : Int) ≤ 28 ∧ 28 < h63 q35 (-1)) <|
  qz_bn (qz_up h63 q35 28 1600730676) fun h64 =>
  qz_ck (0 < q35 ∧ (0 : Int) ≤ 29 ∧ 29 < h64 q35 (-1)) <|
  qz_bn (qz_up h64 q35 29 7954587747278282611) fun h65 =>
  qz_ck ((0 : Int) < l0) <|
  qz_bn (qz_up h65 l0 1 q35) fun h66 =>
  qz_mk h66 40 30 fun h67 q68 =>
  qz_ck (0 < q68 ∧ (0 : Int) ≤ 0 ∧ 0 < h67 q68 (-1)) <|
  qz_bn (qz_up h67 q68 0 0) fun h69 =>
  qz_ck (0 < q68 ∧ (0 : Int) ≤ 1 ∧ 1 < h69 q68 (-1)) <|
  qz_bn (qz_up h69 q68 1 1) fun h70 =>
  qz_ck (0 < q68 ∧ (0 : Int) ≤ 2 ∧ 2 < h70 q68 (-1)) <|
  qz_bn (qz_up h70 q68 2 2) fun h71 =>
  qz_ck (0 < q68 ∧ (0 : Int) ≤ 3 ∧ 3 < h71 q68 (-1)) <|
  qz_bn (qz_up h71 q68 3 3) fun h72 =>
  qz_ck (0 < q68 ∧ (0 : Int) ≤ 4 ∧ 4 < h72 q68 (-1)) <|
  qz_bn (qz_up h72 q68 4 4) fun h73 =>
  qz_ck (0 < q68 ∧ (0 : Int) ≤ 5 ∧ 5 < h73 q68 (-1)) <|
  qz_bn (qz_up h73 q68 5 5) fun h74 =>
  qz_ck (0 < q68 ∧ (0 : Int) ≤ 6 ∧ 6 < h74 q68 (-1)) <|
  qz_bn (qz_up h74 q68 6 11) fun h75 =>
  qz_ck (0 < q68 ∧ (0 : Int) ≤ 7 ∧ 7 < h75 q68 (-1)) <|
  qz_bn (qz_up h75 q68 7 12) fun h76 =>
  qz_ck (0 < q68 ∧ (0 : Int) ≤ 8 ∧ 8 < h76 q68 (-1)) <|
  qz_bn (qz_up h76 q68 8 13) fun h77 =>
  qz_ck (0 < q68 ∧ (0 : Int) ≤ 9 ∧ 9 < h77 q68 (-1)) <|
  qz_bn (qz_up h77 q68 9 15) fun h78 =>
  qz_ck (0 < q68 ∧ (0 : Int) ≤ 10 ∧ 10 < h78 q68 (-1)) <|
  qz_bn (qz_up h78 q68 10 16) fun h79 =>
  qz_ck (0 < q68 ∧ (0 : Int) ≤ 11 ∧ 11 < h79 q68 (-1)) <|
  qz_bn (qz_up h79 q68 11 26) fun h80 =>
  qz_ck (0 < q68 ∧ (0 : Int) ≤ 12 ∧ 12 < h80 q68 (-1)) <|
  qz_bn (qz_up h80 q68 12 27) fun h81 =>
  qz_ck (0 < q68 ∧ (0 : Int) ≤ 13 ∧ 13 < h81 q68 (-1)) <|
  qz_bn (qz_up h81 q68 13 32) fun h82 =>
  qz_ck (0 < q68 ∧ (0 : Int) ≤ 14 ∧ 14 < h82 q68 (-1)) <|
  qz_bn (qz_up h82 q68 14 33) fun h83 =>
  qz_ck (0 < q68 ∧ (0 : Int) ≤ 15 ∧ 15 < h83 q68 (-1)) <|
  qz_bn (qz_up h83 q68 15 34) fun h84 =>
  qz_ck (0 < q68 ∧ (0 : Int) ≤ 16 ∧ 16 < h84 q68 (-1)) <|
  qz_bn (qz_up h84 q68 16 65) fun h85 =>
  qz_ck (0 < q68 ∧ (0 : Int) ≤ 17 ∧ 17 < h85 q68 (-1)) <|
  qz_bn (qz_up h85 q68 17 66) fun h86 =>
  qz_ck (0 < q68 ∧ (0 : Int) ≤ 18 ∧ 18 < h86 q68 (-1)) <|
  qz_bn (qz_up h86 q68 18 69) fun h87 =>
  qz_ck (0 < q68 ∧ (0 : Int) ≤ 19 ∧ 19 < h87 q68 (-1)) <|
  qz_bn (qz_up h87 q68 19 70) fun h88 =>
  qz_ck (0 < q68 ∧ (0 : Int) ≤ 20 ∧ 20 < h88 q68 (-1)) <|
  qz_bn (qz_up h88 q68 20 72) fun h89 =>
  qz_ck (0 < q68 ∧ (0 : Int) ≤ 21 ∧ 21 < h89 q68 (-1)) <|
  qz_bn (qz_up h89 q68 21 106) fun h90 =>
  qz_ck (0 < q68 ∧ (0 : Int) ≤ 22 ∧ 22 < h90 q68 (-1)) <|
  qz_bn (qz_up h90 q68 22 107) fun h91 =>
  qz_ck (0 < q68 ∧ (0 : Int) ≤ 23 ∧ 23 < h91 q68 (-1)) <|
  qz_bn (qz_up h91 q68 23 108) fun h92 =>
  qz_ck (0 < q68 ∧ (0 : Int) ≤ 24 ∧ 24 < h92 q68 (-1)) <|
  qz_bn (qz_up h92 q68 24 80) fun h93 =>
  qz_ck (0 < q68 ∧ (0 : Int) ≤ 25 ∧ 25 < h93 q68 (-1)) <|
  qz_bn (qz_up h93 q68 25 81) fun h94 =>
  qz_ck (0 < q68 ∧ (0 : Int) ≤ 26 ∧ 26 < h94 q68 (-1)) <|
  qz_bn (qz_up h94 q68 26 124) fun h95 =>
  qz_ck (0 < q68 ∧ (0 : Int) ≤ 27 ∧ 27 < h95 q68 (-1)) <|
  qz_bn (qz_up h95 q68 27 126) fun h96 =>
  qz_ck (0 < q68 ∧ (0 : Int) ≤ 28 ∧ 28 < h96 q68 (-1)) <|
  qz_bn (qz_up h96 q68 28 167) fun h97 =>
  qz_ck (0 < q68 ∧ (0 : Int) ≤ 29 ∧ 29 < h97 q68 (-1)) <|
  qz_bn (qz_up h97 q68 29 172) fun h98 =>
  qz_ck ((0 : Int) < l0) <|
  qz_bn (qz_up h98 l0 2 q68) fun h99 =>
  qz_mk h99 42 320 fun h100 q101 =>
  qz_ck ((0 : Int) < l0) <|
  qz_bn (qz_up h100 l0 6 q101) fun h102 =>
  qz_mk h102 40 4 fun h103 q104 =>
  qz_ck ((0 : Int) < l0) <|
  qz_bn (qz_up h103 l0 8 q104) fun h105 =>
  qz_mk h105 40 4 fun h106 q107 =>
  qz_ck ((0 : Int) < l0) <|
  qz_bn (qz_up h106 l0 9 q107) fun h108 =>
  qz_mk h108 40 4 fun h109 q110 =>
  qz_ck ((0 : Int) < l0) <|
  qz_bn (qz_up h109 l0 10 q110) fun h111 =>
  qz_mk h111 40 32 fun h112 q113 =>
  qz_ck ((0 : Int) < l0) <|
  qz_bn (qz_up h112 l0 11 q113) fun h114 =>
  qz_mk h114 40 5 fun h115 q116 =>
  qz_ck ((0 : Int) < l0) <|
  qz_bn (qz_up h115 l0 12 q116) fun h117 =>
  qz_mk h117 40 64 fun h118 q119 =>
  qz_ck ((0 : Int) < l0) <|
  qz_bn (qz_up h118 l0 13 q119) fun h120 =>
  qz_mk h120 41 64 fun h121 q122 =>
  qz_ck ((0 : Int) < l0) <|
  qz_bn (qz_up h121 l0 14 q122) fun h123 =>
  qz_mk h123 40 4 fun h124 q125 =>
  qz_ck ((0 : Int) < l0) <|
  qz_bn (qz_up h124 l0 16 q125) fun h126 =>
  qz_mk h126 40 4 fun h127 q128 =>
  qz_ck ((0 : Int) < l0) <|
  qz_bn (qz_up h127 l0 17 q128) fun h129 =>
  qz_mk h129 40 4 fun h130 q131 =>
  qz_ck ((0 : Int) < l0) <|
  qz_bn (qz_up h130 l0 18 q131) fun h132 =>
  qz_mk h132 40 32 fun h133 q134 =>
  qz_ck ((0 : Int) < l0) <|
  qz_bn (qz_up h133 l0 19 q134) fun h135 =>
  qz_mk h135 40 5 fun h136 q137 =>
  qz_ck ((0 : Int) < l0) <|
  qz_bn (qz_up h136 l0 20 q137) fun h138 =>
  qz_mk h138 40 64 fun h139 q140 =>
  qz_ck ((0 : Int) < l0) <|
  qz_bn (qz_up h139 l0 21 q140) fun h141 =>
  qz_mk h141 41 64 fun h142 q143 =>
  qz_ck ((0 : Int) < l0) <|
  qz_bn (qz_up h142 l0 22 q143) fun h144 =>
  qz_mk h144 40 4 fun h145 q146 =>
  qz_ck ((0 : Int) < l0) <|
  qz_bn (qz_up h145 l0 24 q146) fun h147 =>
  qz_mk h147 40 4 fun h148 q149 =>
  qz_ck ((0 : Int) < l0) <|
  qz_bn (qz_up h148 l0 25 q149) fun h150 =>
  qz_mk h150 40 8 fun h151 q152 =>
  qz_ck ((0 : Int) < l0) <|
  qz_bn (qz_up h151 l0 26 q152) fun h153 =>
  qz_mk h153 40 8 fun h154 q155 =>
  qz_ck ((0 : Int) < l0) <|
  qz_bn (qz_up h154 l0 27 q155) fun h156 =>
  qz_mk h156 40 100 fun h157 q158 =>
  qz_ck ((0 : Int) < l0) <|
  qz_bn (qz_up h157 l0 29 q158) fun h159 =>
  qz_mk h159 40 100 fun h160 q161 =>
  qz_ck ((0 : Int) < l0) <|
  qz_bn (qz_up h160 l0 30 q161) fun h162 =>
  qz_mk h162 40 100 fun h163 q164 =>
  qz_ck ((0 : Int) < l0) <|
  qz_bn (qz_up h163 l0 31 q164) fun h165 =>
  qz_mk h165 40 12 fun h166 q167 =>
  qz_ck ((0 : Int) < l0) <|
  qz_bn (qz_up h166 l0 40 q167) fun h168 =>
  qz_mk h168 44 12 fun h169 q170 =>
  qz_ck ((0 : Int) < l0) <|
  qz_bn (qz_up h169 l0 41 q170) fun h171 =>
  qz_mk h171 44 12 fun h172 q173 =>
  qz_ck ((0 : Int) < l0) <|
  qz_bn (qz_up h172 l0 42 q173) fun h174 =>
  qz_mk h174 40 12 fun h175 q176 =>
  qz_ck ((0 : Int) < l0) <|
  qz_bn (qz_up h175 l0 43 q176) fun h177 =>
  qz_mk h177 40 12 fun h178 q179 =>
  qz_ck ((0 : Int) < l0) <|
  qz_bn (qz_up h178 l0 44 q179) fun h180 =>
  qz_mk h180 41 12 fun h181 q182 =>
  qz_ck ((0 : Int) < l0) <|
  qz_bn (qz_up h181 l0 45 q182) fun h183 =>
  qz_mk h183 40 12 fun h184 q185 =>
  qz_ck ((0 : Int) < l0) <|
  qz_bn (qz_up h184 l0 46 q185) fun h186 =>
  qz_mk h186 40 80 fun h187 q188 =>
  qz_ck ((0 : Int) < l0) <|
  qz_bn (qz_up h187 l0 50 q188) fun h189 =>
  qz_mk h189 40 14 fun h190 q191 =>
  qz_ck ((0 : Int) < l0) <|
  qz_bn (qz_up h190 l0 52 q191) fun h192 =>
  qz_mk h192 40 14 fun h193 q194 =>
  qz_ck ((0 : Int) < l0) <|
  qz_bn (qz_up h193 l0 53 q194) fun h195 =>
  qz_mk h195 40 14 fun h196 q197 =>
  qz_ck ((0 : Int) < l0) <|
  qz_bn (qz_up h196 l0 54 q197) fun h198 =>
  qz_mk h198 40 14 fun h199 q200 =>
  qz_ck ((0 : Int) < l0) <|
  qz_bn (qz_up h199 l0 55 q200) fun h201 =>
  qz_mk h201 44 14 fun h202 q203 =>
  qz_ck ((0 : Int) < l0) <|
  qz_bn (qz_up h202 l0 56 q203) fun h204 =>
  qz_mk h204 40 1400 fun h205 q206 =>
  qz_ck ((0 : Int) < l0) <|
  qz_bn (qz_up h205 l0 59 q206) fun h207 =>
  qz_mk h207 40 1400 fun h208 q209 =>
  qz_ck ((0 : Int) < l0) <|
  qz_bn (qz_up h208 l0 61 q209) fun h210 =>
  qz_mk h210 42 320 fun h211 q212 =>
  qz_ck ((0 : Int) < l0) <|
  qz_bn (qz_up h211 l0 63 q212) fun h213 =>
  some (0, h213)
def bk_Md_init_0 : List (Instr × Nat) := [(.aload_n 0, 1), (.invokespecial 1, 3), (.aload_n 0, 1), (.bipush 30, 2), (.newarray .long, 2), (.dup, 1), (.iconst 0, 1), (.ldc2_w 7, 3), (.lastore, 1), (.dup, 1), (.iconst 1, 1), (.ldc2_w 9, 3), (.lastore, 1), (.dup, 1), (.iconst 2, 1), (.ldc2_w 11, 3), (.lastore, 1), (.dup, 1), (.iconst 3, 1), (.ldc2_w 13, 3), (.lastore, 1), (.dup, 1), (.iconst 4, 1), (.ldc2_w 15, 3), (.lastore, 1), (.dup, 1), (.iconst 5, 1), (.ldc2_w 17, 3), (.lastore, 1), (.dup, 1), (.bipush 6, 2), (.ldc2_w 19, 3), (.lastore, 1), (.dup, 1), (.bipush 7, 2), (.ldc2_w 21, 3), (.lastore, 1), (.dup, 1), (.bipush 8, 2), (.ldc2_w 23, 3), (.lastore, 1), (.dup, 1), (.bipush 9, 2), (.ldc2_w 25, 3), (.lastore, 1), (.dup, 1), (.bipush 10, 2), (.ldc2_w 27, 3), (.lastore, 1), (.dup, 1), (.bipush 11, 2), (.ldc2_w 29, 3), (.lastore, 1), (.dup, 1), (.bipush 12, 2), (.ldc2_w 31, 3), (.lastore, 1), (.dup, 1), (.bipush 13, 2), (.ldc2_w 33, 3), (.lastore, 1), (.dup, 1), (.bipush 14, 2), (.ldc2_w 35, 3), (.lastore, 1), (.dup, 1), (.bipush 15, 2), (.ldc2_w 37, 3), (.lastore, 1), (.dup, 1), (.bipush 16, 2), (.ldc2_w 39, 3), (.lastore, 1), (.dup, 1), (.bipush 17, 2), (.ldc2_w 41, 3), (.lastore, 1), (.dup, 1), (.bipush 18, 2), (.ldc2_w 43, 3), (.lastore, 1), (.dup, 1), (.bipush 19, 2), (.ldc2_w 45, 3), (.lastore, 1), (.dup, 1), (.bipush 20, 2), (.ldc2_w 47, 3), (.lastore, 1), (.dup, 1), (.bipush 21, 2), (.ldc2_w 49, 3), (.lastore, 1), (.dup, 1), (.bipush 22, 2), (.ldc2_w 51, 3), (.lastore, 1), (.dup, 1), (.bipush 23, 2), (.ldc2_w 53, 3), (.lastore, 1), (.dup, 1), (.bipush 24, 2), (.ldc2_w 55, 3), (.lastore, 1), (.dup, 1), (.bipush 25, 2), (.ldc2_w 57, 3), (.lastore, 1), (.dup, 1), (.bipush 26, 2), (.ldc2_w 59, 3), (.lastore, 1), (.dup, 1), (.bipush 27, 2), (.ldc2_w 61, 3), (.lastore, 1), (.dup, 1), (.bipush 28, 2), (.ldc2_w 63, 3), (.lastore, 1), (.dup, 1), (.bipush 29, 2), (.ldc2_w 65, 3), (.lastore, 1), (.putfield 67, 3), (.aload_n 0, 1), (.bipush 30, 2), (.newarray .long, 2), (.dup, 1), (.iconst 0, 1), (.ldc2_w 73, 3), (.lastore, 1), (.dup, 1), (.iconst 1, 1), (.lconst 0, 1), (.lastore, 1), (.dup, 1), (.iconst 2, 1), (.lconst 0, 1), (.lastore, 1), (.dup, 1), (.iconst 3, 1), (.lconst 0, 1), (.lastore, 1), (.dup, 1), (.iconst 4, 1), (.lconst 0, 1), (.lastore, 1), (.dup, 1), (.iconst 5, 1), (.lconst 0, 1), (.lastore, 1), (.dup, 1), (.bipush 6, 2), (.lconst 0, 1), (.lastore, 1), (.dup, 1), (.bipush 7, 2), (.lconst 0, 1), (.lastore, 1), (.dup, 1), (.bipush 8, 2), (.lconst 0, 1), (.lastore, 1), (.dup, 1), (.bipush 9, 2), (.lconst 0, 1), (.lastore, 1), (.dup, 1), (.bipush 10, 2), (.lconst 0, 1), (.lastore, 1), (.dup, 1), (.bipush 11, 2), (.lconst 0, 1), (.lastore, 1), (.dup, 1), (.bipush 12, 2), (.lconst 0, 1), (.lastore, 1), (.dup, 1), (.bipush 13, 2), (.ldc2_w 75, 3), (.lastore, 1), (.dup, 1), (.bipush 14, 2), (.ldc2_w 75, 3), (.lastore, 1), (.dup, 1), (.bipush 15, 2), (.ldc2_w 77, 3), (.lastore, 1), (.dup, 1), (.bipush 16, 2), (.ldc2_w 75, 3), (.lastore, 1), (.dup, 1), (.bipush 17, 2), (.ldc2_w 75, 3), (.lastore, 1), (.dup, 1), (.bipush 18, 2), (.lconst 0, 1), (.lastore, 1), (.dup, 1), (.bipush 19, 2), (.lconst 0, 1), (.lastore, 1), (.dup, 1), (.bipush 20, 2), (.lconst 0, 1), (.lastore, 1), (.dup, 1), (.bipush 21, 2), (.lconst 0, 1), (.lastore, 1), (.dup, 1), (.bipush 22, 2), (.lconst 0, 1), (.lastore, 1), (.dup, 1), (.bipush 23, 2), (.lconst 0, 1), (.lastore, 1), (.dup, 1), (.bipush 24, 2), (.lconst 0, 1), (.lastore, 1), (.dup, 1), (.bipush 25, 2), (.lconst 0, 1), (.lastore, 1), (.dup, 1), (.bipush 26, 2), (.lconst 0, 1), (.lastore, 1), (.dup, 1), (.bipush 27, 2), (.lconst 0, 1), (.lastore, 1), (.dup, 1), (.bipush 28, 2), (.ldc2_w 79, 3), (.lastore, 1), (.dup, 1), (.bipush 29, 2), (.ldc2_w 81, 3), (.lastore, 1), (.putfield 83, 3), (.aload_n 0, 1), (.bipush 30, 2), (.newarray .int, 2), (.dup, 1), (.iconst 0, 1), (.iconst 0, 1), (.iastore, 1), (.dup, 1), (.iconst 1, 1), (.iconst 1, 1), (.iastore, 1), (.dup, 1), (.iconst 2, 1), (.iconst 2, 1), (.iastore, 1), (.dup, 1), (.iconst 3, 1), (.iconst 3, 1), (.iastore, 1), (.dup, 1), (.iconst 4, 1), (.iconst 4, 1), (.iastore, 1), (.dup, 1), (.iconst 5, 1), (.iconst 5, 1), (.iastore, 1), (.dup, 1), (.bipush 6, 2), (.bipush 11, 2), (.iastore, 1), (.dup, 1), (.bipush 7, 2), (.bipush 12, 2), (.iastore, 1), (.dup, 1), (.bipush 8, 2), (.bipush 13, 2), (.iastore, 1), (.dup, 1), (.bipush 9, 2), (.bipush 15, 2), (.iastore, 1), (.dup, 1), (.bipush 10, 2), (.bipush 16, 2), (.iastore, 1), (.dup, 1), (.bipush 11, 2), (.bipush 26, 2), (.iastore, 1), (.dup, 1), (.bipush 12, 2), (.bipush 27, 2), (.iastore, 1), (.dup, 1), (.bipush 13, 2), (.bipush 32, 2), (.iastore, 1), (.dup, 1), (.bipush 14, 2), (.bipush 33, 2), (.iastore, 1), (.dup, 1), (.bipush 15, 2), (.bipush 34, 2), (.iastore, 1), (.dup, 1), (.bipush 16, 2), (.bipush 65, 2), (.iastore, 1), (.dup, 1), (.bipush 17, 2), (.bipush 66, 2), (.iastore, 1), (.dup, 1), (.bipush 18, 2), (.bipush 69, 2), (.iastore, 1), (.dup, 1), (.bipush 19, 2), (.bipush 70, 2), (.iastore, 1), (.dup, 1), (.bipush 20, 2), (.bipush 72, 2), (.iastore, 1), (.dup, 1), (.bipush 21, 2), (.bipush 106, 2), (.iastore, 1), (.dup, 1), (.bipush 22, 2), (.bipush 107, 2), (.iastore, 1), (.dup, 1), (.bipush 23, 2), (.bipush 108, 2), (.iastore, 1), (.dup, 1), (.bipush 24, 2), (.bipush 80, 2), (.iastore, 1), (.dup, 1), (.bipush 25, 2), (.bipush 81, 2), (.iastore, 1), (.dup, 1), (.bipush 26, 2), (.bipush 124, 2), (.iastore, 1), (.dup, 1), (.bipush 27, 2), (.bipush 126, 2), (.iastore, 1), (.dup, 1), (.bipush 28, 2), (.sipush 167, 3), (.iastore, 1), (.dup, 1), (.bipush 29, 2), (.sipush 172, 3), (.iastore, 1), (.putfield 86, 3), (.aload_n 0, 1), (.sipush 320, 3), (.newarray .char, 2), (.putfield 90, 3), (.aload_n 0, 1), (.iconst 4, 1), (.newarray .int, 2), (.putfield 94, 3), (.aload_n 0, 1), (.iconst 4, 1), (.newarray .int, 2), (.putfield 97, 3), (.aload_n 0, 1), (.iconst 4, 1), (.newarray .int, 2), (.putfield 100, 3), (.aload_n 0, 1), (.bipush 32, 2), (.newarray .int, 2), (.putfield 103, 3), (.aload_n 0, 1), (.iconst 5, 1), (.newarray .int, 2), (.putfield 106, 3), (.aload_n 0, 1), (.bipush 64, 2), (.newarray .int, 2), (.putfield 109, 3), (.aload_n 0, 1), (.bipush 64, 2), (.newarray .long, 2), (.putfield 112, 3), (.aload_n 0, 1), (.iconst 4, 1), (.newarray .int, 2), (.putfield 115, 3), (.aload_n 0, 1), (.iconst 4, 1), (.newarray .int, 2), (.putfield 118, 3), (.aload_n 0, 1), (.iconst 4, 1), (.newarray .int, 2), (.putfield 121, 3), (.aload_n 0, 1), (.bipush 32, 2), (.newarray .int, 2), (.putfield 124, 3), (.aload_n 0, 1), (.iconst 5, 1), (.newarray .int, 2), (.putfield 127, 3), (.aload_n 0, 1), (.bipush 64, 2), (.newarray .int, 2), (.putfield 130, 3), (.aload_n 0, 1), (.bipush 64, 2), (.newarray .long, 2), (.putfield 133, 3), (.aload_n 0, 1), (.iconst 4, 1), (.newarray .int, 2), (.putfield 136, 3), (.aload_n 0, 1), (.iconst 4, 1), (.newarray .int, 2), (.putfield 139, 3), (.aload_n 0, 1), (.bipush 8, 2), (.newarray .int, 2), (.putfield 142, 3), (.aload_n 0, 1), (.bipush 8, 2), (.newarray .int, 2), (.putfield 145, 3), (.aload_n 0, 1), (.bipush 100, 2), (.newarray .int, 2), (.putfield 148, 3), (.aload_n 0, 1), (.bipush 100, 2), (.newarray .int, 2), (.putfield 151, 3), (.aload_n 0, 1), (.bipush 100, 2), (.newarray .int, 2), (.putfield 154, 3), (.aload_n 0, 1), (.bipush 12, 2), (.newarray .int, 2), (.putfield 157, 3), (.aload_n 0, 1), (.bipush 12, 2), (.newarray .boolean, 2), (.putfield 160, 3), (.aload_n 0, 1), (.bipush 12, 2), (.newarray .boolean, 2), (.putfield 164, 3), (.aload_n 0, 1), (.bipush 12, 2), (.newarray .int, 2), (.putfield 167, 3), (.aload_n 0, 1), (.bipush 12, 2), (.newarray .int, 2), (.putfield 170, 3), (.aload_n 0, 1), (.bipush 12, 2), (.newarray .long, 2), (.putfield 173, 3), (.aload_n 0, 1), (.bipush 12, 2), (.newarray .int, 2), (.putfield 176, 3), (.aload_n 0, 1), (.bipush 80, 2), (.newarray .int, 2), (.putfield 179, 3), (.aload_n 0, 1), (.bipush 14, 2), (.newarray .int, 2), (.putfield 182, 3), (.aload_n 0, 1), (.bipush 14, 2), (.newarray .int, 2), (.putfield 185, 3), (.aload_n 0, 1), (.bipush 14, 2), (.newarray .int, 2), (.putfield 188, 3), (.aload_n 0, 1), (.bipush 14, 2), (.newarray .int, 2), (.putfield 191, 3), (.aload_n 0, 1), (.bipush 14, 2), (.newarray .boolean, 2), (.putfield 194, 3), (.aload_n 0, 1), (.sipush 1400, 3), (.newarray .int, 2), (.putfield 197, 3), (.aload_n 0, 1), (.sipush 1400, 3), (.newarray .int, 2), (.putfield 200, 3), (.aload_n 0, 1), (.sipush 320, 3), (.newarray .char, 2), (.putfield 203, 3), (.return_, 1)]
theorem ca_Md_init_0 : qz_ca yd_Md_init.2.1 0 bk_Md_init_0 := qz_cab_ok _ _ (by decide +kernel)
set_option maxRecDepth 20000 in
theorem cn_Md_init (l0 : Int) (h : qz_H) : qz_C yd_Md_init [qz_r true 12 l0] h (fn_Md_init l0 h) := by
  refine qz_con (is := bk_Md_init_0) (ls := [qz_r true 12 l0]) mw_Md_init.2.2.2 ca_Md_init_0 rfl rfl fun G => ?_
  unfold fn_Md_init bk_Md_init_0; exact
    qz_aload_n rfl <|
    qz_objI oi_Md_1 rfl <|
    qz_aload_n rfl <|
    qz_bipush rfl <|
    qz_newa (N := 30) rfl rfl (by decide) rfl rfl rfl (by decide) wa_long rfl fun h1 q2 =>
    qz_dup rfl <|
    qz_iconst rfl <|
    qz_ldc2 wc_Md_7 rfl <|
    qz_last rfl rfl rfl fun h3 =>
    qz_dup rfl <|
    qz_iconst rfl <|
    qz_ldc2 wc_Md_9 rfl <|
    qz_last rfl rfl rfl fun h4 =>
    qz_dup rfl <|
    qz_iconst rfl <|
    qz_ldc2 wc_Md_11 rfl <|
    qz_last rfl rfl rfl fun h5 =>
    qz_dup rfl <|
    qz_iconst rfl <|
    qz_ldc2 wc_Md_13 rfl <|
    qz_last rfl rfl rfl fun h6 =>
    qz_dup rfl <|
    qz_iconst rfl <|
    qz_ldc2 wc_Md_15 rfl <|
    qz_last rfl rfl rfl fun h7 =>
    qz_dup rfl <|
    qz_iconst rfl <|
    qz_ldc2 wc_Md_17 rfl <|
    qz_last rfl rfl rfl fun h8 =>
    qz_dup rfl <|
    qz_bipush rfl <|
    qz_ldc2 wc_Md_19 rfl <|
    qz_last rfl rfl rfl fun h9 =>
    qz_dup rfl <|
    qz_bipush rfl <|
    qz_ldc2 wc_Md_21 rfl <|
    qz_last rfl rfl rfl fun h10 =>
    qz_dup rfl <|
    qz_bipush rfl <|
    qz_ldc2 wc_Md_23 rfl <|
    qz_last rfl rfl rfl fun h11 =>
    qz_dup rfl <|
    qz_bipush rfl <|
    qz_ldc2 wc_Md_25 rfl <|
    qz_last rfl rfl rfl fun h12 =>
    qz_dup rfl <|
    qz_bipush rfl <|
    qz_ldc2 wc_Md_27 rfl <|
    qz_last rfl rfl rfl fun h13 =>
    qz_dup rfl <|
    qz_bipush rfl <|
    qz_ldc2 wc_Md_29 rfl <|
    qz_last rfl rfl rfl fun h14 =>
    qz_dup rfl <|
    qz_bipush rfl <|
    qz_ldc2 wc_Md_31 rfl <|
    qz_last rfl rfl rfl fun h15 =>
    qz_dup rfl <|
    qz_bipush rfl <|
    qz_ldc2 wc_Md_33 rfl <|
    qz_last rfl rfl rfl fun h16 =>
    qz_dup rfl <|
    qz_bipush rfl <|
    qz_ldc2 wc_Md_35 rfl <|
    qz_last rfl rfl rfl fun h17 =>
    qz_dup rfl <|
    qz_bipush rfl <|
    qz_ldc2 wc_Md_37 rfl <|
    qz_last rfl rfl rfl fun h18 =>
    qz_dup rfl <|
    qz_bipush rfl <|
    qz_ldc2 wc_Md_39 rfl <|
    qz_last rfl rfl rfl fun h19 =>
    qz_dup rfl <|
    qz_bipush rfl <|
    qz_ldc2 wc_Md_41 rfl <|
    qz_last rfl rfl rfl fun h20 =>
    qz_dup rfl <|
    qz_bipush rfl <|
    qz_ldc2 wc_Md_43 rfl <|
    qz_last rfl rfl rfl fun h21 =>
    qz_dup rfl <|
    qz_bipush rfl <|
    qz_ldc2 wc_Md_45 rfl <|
    qz_last rfl rfl rfl fun h22 =>
    qz_dup rfl <|
    qz_bipush rfl <|
    qz_ldc2 wc_Md_47 rfl <|
    qz_last rfl rfl rfl fun h23 =>
    qz_dup rfl <|
    qz_bipush rfl <|
    qz_ldc2 wc_Md_49 rfl <|
    qz_last rfl rfl rfl fun h24 =>
    qz_dup rfl <|
    qz_bipush rfl <|
    qz_ldc2 wc_Md_51 rfl <|
    qz_last rfl rfl rfl fun h25 =>
    qz_dup rfl <|
    qz_bipush rfl <|
    qz_ldc2 wc_Md_53 rfl <|
    qz_last rfl rfl rfl fun h26 =>
    qz_dup rfl <|
    qz_bipush rfl <|
    qz_ldc2 wc_Md_55 rfl <|
    qz_last rfl rfl rfl fun h27 =>
    qz_dup rfl <|
    qz_bipush rfl <|
    qz_ldc2 wc_Md_57 rfl <|
    qz_last rfl rfl rfl fun h28 =>
    qz_dup rfl <|
    qz_bipush rfl <|
    qz_ldc2 wc_Md_59 rfl <|
    qz_last rfl rfl rfl fun h29 =>
    qz_dup rfl <|
    qz_bipush rfl <|
    qz_ldc2 wc_Md_61 rfl <|
    qz_last rfl rfl rfl fun h30 =>
    qz_dup rfl <|
    qz_bipush rfl <|
    qz_ldc2 wc_Md_63 rfl <|
    qz_last rfl rfl rfl fun h31 =>
    qz_dup rfl <|
    qz_bipush rfl <|
    qz_ldc2 wc_Md_65 rfl <|
    qz_last rfl rfl rfl fun h32 =>
    qz_putR (k1 := 41) kw_12 fp_Md_67_Md_init rfl rfl fun h33 =>
    qz_aload_n rfl <|
    qz_bipush rfl <|
    qz_newa (N := 30) rfl rfl (by decide) rfl rfl rfl (by decide) wa_long rfl fun h34 q35 =>
    qz_dup rfl <|
    qz_iconst rfl <|
    qz_ldc2 wc_Md_73 rfl <|
    qz_last rfl rfl rfl fun h36 =>
    qz_dup rfl <|
    qz_iconst rfl <|
    qz_lconst rfl <|
    qz_last rfl rfl rfl fun h37 =>
    qz_dup rfl <|
    qz_iconst rfl <|
    qz_lconst rfl <|
    qz_last rfl rfl rfl fun h38 =>
    qz_dup rfl <|
    qz_iconst rfl <|
    qz_lconst rfl <|
    qz_last rfl rfl rfl fun h39 =>
    qz_dup rfl <|
    qz_iconst rfl <|
    qz_lconst rfl <|
    qz_last rfl rfl rfl fun h40 =>
    qz_dup rfl <|
    qz_iconst rfl <|
    qz_lconst rfl <|
    qz_last rfl rfl rfl fun h41 =>
    qz_dup rfl <|
    qz_bipush rfl <|
    qz_lconst rfl <|
    qz_last rfl rfl rfl fun h42 =>
    qz_dup rfl <|
    qz_bipush rfl <|
    qz_lconst rfl <|
    qz_last rfl rfl rfl fun h43 =>
    qz_dup rfl <|
    qz_bipush rfl <|
    qz_lconst rfl <|
    qz_last rfl rfl rfl fun h44 =>
    qz_dup rfl <|
    qz_bipush rfl <|
    qz_lconst rfl <|
    qz_last rfl rfl rfl fun h45 =>
    qz_dup rfl <|
    qz_bipush rfl <|
    qz_lconst rfl <|
    qz_last rfl rfl rfl fun h46 =>
    qz_dup rfl <|
    qz_bipush rfl <|
    qz_lconst rfl <|
    qz_last rfl rfl rfl fun h47 =>
    qz_dup rfl <|
    qz_bipush rfl <|
    qz_lconst rfl <|
    qz_last rfl rfl rfl fun h48 =>
    qz_dup rfl <|
    qz_bipush rfl <|
    qz_ldc2 wc_Md_75 rfl <|
    qz_last rfl rfl rfl fun h49 =>
    qz_dup rfl <|
    qz_bipush rfl <|
    qz_ldc2 wc_Md_75 rfl <|
    qz_last rfl rfl rfl fun h50 =>
    qz_dup rfl <|
    qz_bipush rfl <|
    qz_ldc2 wc_Md_77 rfl <|
    qz_last rfl rfl rfl fun h51 =>
    qz_dup rfl <|
    qz_bipush rfl <|
    qz_ldc2 wc_Md_75 rfl <|
    qz_last rfl rfl rfl fun h52 =>
    qz_dup rfl <|
    qz_bipush rfl <|
    qz_ldc2 wc_Md_75 rfl <|
    qz_last rfl rfl rfl fun h53 =>
    qz_dup rfl <|
    qz_bipush rfl <|
    qz_lconst rfl <|
    qz_last rfl rfl rfl fun h54 =>
    qz_dup rfl <|
    qz_bipush rfl <|
    qz_lconst rfl <|
    qz_last rfl rfl rfl fun h55 =>
    qz_dup rfl <|
    qz_bipush rfl <|
    qz_lconst rfl <|
    qz_last rfl rfl rfl fun h56 =>
    qz_dup rfl <|
    qz_bipush rfl <|
    qz_lconst rfl <|
    qz_last rfl rfl rfl fun h57 =>
    qz_dup rfl <|
    qz_bipush rfl <|
    qz_lconst rfl <|
    qz_last rfl rfl rfl fun h58 =>
    qz_dup rfl <|
    qz_bipush rfl <|
    qz_lconst rfl <|
    qz_last rfl rfl rfl fun h59 =>
    qz_dup rfl <|
    qz_bipush rfl <|
    qz_lconst rfl <|
    qz_last rfl rfl rfl fun h60 =>
    qz_dup rfl <|
    qz_bipush rfl <|
    qz_lconst rfl <|
    qz_last rfl rfl rfl fun h61 =>
    qz_dup rfl <|
    qz_bipush rfl <|
    qz_lconst rfl <|
    qz_last rfl rfl rfl fun h62 =>
    qz_dup rfl <|
    qz_bipush rfl <|
    qz_lconst rfl <|
    qz_last rfl rfl rfl fun h63 =>
    qz_dup rfl <|
    qz_bipush rfl <|
    qz_ldc2 wc_Md_79 rfl <|
    qz_last rfl rfl rfl fun h64 =>
    qz_dup rfl <|
    qz_bipush rfl <|
    qz_ldc2 wc_Md_81 rfl <|
    qz_last rfl rfl rfl fun h65 =>
    qz_putR (k1 := 41) kw_12 fp_Md_83_Md_init rfl rfl fun h66 =>
    qz_aload_n rfl <|
    qz_bipush rfl <|
    qz_newa (N := 30) rfl rfl (by decide) rfl rfl rfl (by decide) wa_int rfl fun h67 q68 =>
    qz_dup rfl <|
    qz_iconst rfl <|
    qz_iconst rfl <|
    qz_iast rfl rfl rfl fun h69 =>
    qz_dup rfl <|
    qz_iconst rfl <|
    qz_iconst rfl <|
    qz_iast rfl rfl rfl fun h70 =>
    qz_dup rfl <|
    qz_iconst rfl <|
    qz_iconst rfl <|
    qz_iast rfl rfl rfl fun h71 =>
    qz_dup rfl <|
    qz_iconst rfl <|
    qz_iconst rfl <|
    qz_iast rfl rfl rfl fun h72 =>
    qz_dup rfl <|
    qz_iconst rfl <|
    qz_iconst rfl <|
    qz_iast rfl rfl rfl fun h73 =>
    qz_dup rfl <|
    qz_iconst rfl <|
    qz_iconst rfl <|
    qz_iast rfl rfl rfl fun h74 =>
    qz_dup rfl <|
    qz_bipush rfl <|
    qz_bipush rfl <|
    qz_iast rfl rfl rfl fun h75 =>
    qz_dup rfl <|
    qz_bipush rfl <|
    qz_bipush rfl <|
    qz_iast rfl rfl rfl fun h76 =>
    qz_dup rfl <|
    qz_bipush rfl <|
    qz_bipush rfl <|
    qz_iast rfl rfl rfl fun h77 =>
    qz_dup rfl <|
    qz_bipush rfl <|
    qz_bipush rfl <|
    qz_iast rfl rfl rfl fun h78 =>
    qz_dup rfl <|
    qz_bipush rfl <|
    qz_bipush rfl <|
    qz_iast rfl rfl rfl fun h79 =>
    qz_dup rfl <|
    qz_bipush rfl <|
    qz_bipush rfl <|
    qz_iast rfl rfl rfl fun h80 =>
    qz_dup rfl <|
    qz_bipush rfl <|
    qz_bipush rfl <|
    qz_iast rfl rfl rfl fun h81 =>
    qz_dup rfl <|
    qz_bipush rfl <|
    qz_bipush rfl <|
    qz_iast rfl rfl rfl fun h82 =>
    qz_dup rfl <|
    qz_bipush rfl <|
    qz_bipush rfl <|
    qz_iast rfl rfl rfl fun h83 =>
    qz_dup rfl <|
    qz_bipush rfl <|
    qz_bipush rfl <|
    qz_iast rfl rfl rfl fun h84 =>
    qz_dup rfl <|
    qz_bipush rfl <|
    qz_bipush rfl <|
    qz_iast rfl rfl rfl fun h85 =>
    qz_dup rfl <|
    qz_bipush rfl <|
    qz_bipush rfl <|
    qz_iast rfl rfl rfl fun h86 =>
    qz_dup rfl <|
    qz_bipush rfl <|
    qz_bipush rfl <|
    qz_iast rfl rfl rfl fun h87 =>
    qz_dup rfl <|
    qz_bipush rfl <|
    qz_bipush rfl <|
    qz_iast rfl rfl rfl fun h88 =>
    qz_dup rfl <|
    qz_bipush rfl <|
    qz_bipush rfl <|
    qz_iast rfl rfl rfl fun h89 =>
    qz_dup rfl <|
    qz_bipush rfl <|
    qz_bipush rfl <|
    qz_iast rfl rfl rfl fun h90 =>
    qz_dup rfl <|
    qz_bipush rfl <|
    qz_bipush rfl <|
    qz_iast rfl rfl rfl fun h91 =>
    qz_dup rfl <|
    qz_bipush rfl <|
    qz_bipush rfl <|
    qz_iast rfl rfl rfl fun h92 =>
    qz_dup rfl <|
    qz_bipush rfl <|
    qz_bipush rfl <|
    qz_iast rfl rfl rfl fun h93 =>
    qz_dup rfl <|
    qz_bipush rfl <|
    qz_bipush rfl <|
    qz_iast rfl rfl rfl fun h94 =>
    qz_dup rfl <|
    qz_bipush rfl <|
    qz_bipush rfl <|
    qz_iast rfl rfl rfl fun h95 =>
    qz_dup rfl <|
    qz_bipush rfl <|
    qz_bipush rfl <|
    qz_iast rfl rfl rfl fun h96 =>
    qz_dup rfl <|
    qz_bipush rfl <|
    qz_sipush rfl <|
    qz_iast rfl rfl rfl fun h97 =>
    qz_dup rfl <|
    qz_bipush rfl <|
    qz_sipush rfl <|
    qz_iast rfl rfl rfl fun h98 =>
    qz_putR (k1 := 40) kw_12 fp_Md_86_Md_init rfl rfl fun h99 =>
    qz_aload_n rfl <|
    qz_sipush rfl <|
    qz_newa (N := 320) rfl rfl (by decide) rfl rfl rfl (by decide) wa_char rfl fun h100 q101 =>
    qz_putR (k1 := 42) kw_12 fp_Md_90_Md_init rfl rfl fun h102 =>
    qz_aload_n rfl <|
    qz_iconst rfl <|
    qz_newa (N := 4) rfl rfl (by decide) rfl rfl rfl (by decide) wa_int rfl fun h103 q104 =>
    qz_putR (k1 := 40) kw_12 fp_Md_94_Md_init rfl rfl fun h105 =>
    qz_aload_n rfl <|
    qz_iconst rfl <|
    qz_newa (N := 4) rfl rfl (by decide) rfl rfl rfl (by decide) wa_int rfl fun h106 q107 =>
    qz_putR (k1 := 40) kw_12 fp_Md_97_Md_init rfl rfl fun h108 =>
    qz_aload_n rfl <|
    qz_iconst rfl <|
    qz_newa (N := 4) rfl rfl (by decide) rfl rfl rfl (by decide) wa_int rfl fun h109 q110 =>
    qz_putR (k1 := 40) kw_12 fp_Md_100_Md_init rfl rfl fun h111 =>
    qz_aload_n rfl <|
    qz_bipush rfl <|
    qz_newa (N := 32) rfl rfl (by decide) rfl rfl rfl (by decide) wa_int rfl fun h112 q113 =>
    qz_putR (k1 := 40) kw_12 fp_Md_103_Md_init rfl rfl fun h114 =>
    qz_aload_n rfl <|
    qz_iconst rfl <|
    qz_newa (N := 5) rfl rfl (by decide) rfl rfl rfl (by decide) wa_int rfl fun h115 q116 =>
    qz_putR (k1 := 40) kw_12 fp_Md_106_Md_init rfl rfl fun h117 =>
    qz_aload_n rfl <|
    qz_bipush rfl <|
    qz_newa (N := 64) rfl rfl (by decide) rfl rfl rfl (by decide) wa_int rfl fun h118 q119 =>
    qz_putR (k1 := 40) kw_12 fp_Md_109_Md_init rfl rfl fun h120 =>
    qz_aload_n rfl <|
    qz_bipush rfl <|
    qz_newa (N := 64) rfl rfl (by decide) rfl rfl rfl (by decide) wa_long rfl fun h121 q122 =>
    qz_putR (k1 := 41) kw_12 fp_Md_112_Md_init rfl rfl fun h123 =>
    qz_aload_n rfl <|
    qz_iconst rfl <|
    qz_newa (N := 4) rfl rfl (by decide) rfl rfl rfl (by decide) wa_int rfl fun h124 q125 =>
    qz_putR (k1 := 40) kw_12 fp_Md_115_Md_init rfl rfl fun h126 =>
    qz_aload_n rfl <|
    qz_iconst rfl <|
    qz_newa (N := 4) rfl rfl (by decide) rfl rfl rfl (by decide) wa_int rfl fun h127 q128 =>
    qz_putR (k1 := 40) kw_12 fp_Md_118_Md_init rfl rfl fun h129 =>
    qz_aload_n rfl <|
    qz_iconst rfl <|
    qz_newa (N := 4) rfl rfl (by decide) rfl rfl rfl (by decide) wa_int rfl fun h130 q131 =>
    qz_putR (k1 := 40) kw_12 fp_Md_121_Md_init rfl rfl fun h132 =>
    qz_aload_n rfl <|
    qz_bipush rfl <|
    qz_newa (N := 32) rfl rfl (by decide) rfl rfl rfl (by decide) wa_int rfl fun h133 q134 =>
    qz_putR (k1 := 40) kw_12 fp_Md_124_Md_init rfl rfl fun h135 =>
    qz_aload_n rfl <|
    qz_iconst rfl <|
    qz_newa (N := 5) rfl rfl (by decide) rfl rfl rfl (by decide) wa_int rfl fun h136 q137 =>
    qz_putR (k1 := 40) kw_12 fp_Md_127_Md_init rfl rfl fun h138 =>
    qz_aload_n rfl <|
    qz_bipush rfl <|
    qz_newa (N := 64) rfl rfl (by decide) rfl rfl rfl (by decide) wa_int rfl fun h139 q140 =>
    qz_putR (k1 := 40) kw_12 fp_Md_130_Md_init rfl rfl fun h141 =>
    qz_aload_n rfl <|
    qz_bipush rfl <|
    qz_newa (N := 64) rfl rfl (by decide) rfl rfl rfl (by decide) wa_long rfl fun h142 q143 =>
    qz_putR (k1 := 41) kw_12 fp_Md_133_Md_init rfl rfl fun h144 =>
    qz_aload_n rfl <|
    qz_iconst rfl <|
    qz_newa (N := 4) rfl rfl (by decide) rfl rfl rfl (by decide) wa_int rfl fun h145 q146 =>
    qz_putR (k1 := 40) kw_12 fp_Md_136_Md_init rfl rfl fun h147 =>
    qz_aload_n rfl <|
    qz_iconst rfl <|
    qz_newa (N := 4) rfl rfl (by decide) rfl rfl rfl (by decide) wa_int rfl fun h148 q149 =>
    qz_putR (k1 := 40) kw_12 fp_Md_139_Md_init rfl rfl fun h150 =>
    qz_aload_n rfl <|
    qz_bipush rfl <|
    qz_newa (N := 8) rfl rfl (by decide) rfl rfl rfl (by decide) wa_int rfl fun h151 q152 =>
    qz_putR (k1 := 40) kw_12 fp_Md_142_Md_init rfl rfl fun h153 =>
    qz_aload_n rfl <|
    qz_bipush rfl <|
    qz_newa (N := 8) rfl rfl (by decide) rfl rfl rfl (by decide) wa_int rfl fun h154 q155 =>
    qz_putR (k1 := 40) kw_12 fp_Md_145_Md_init rfl rfl fun h156 =>
    qz_aload_n rfl <|
    qz_bipush rfl <|
    qz_newa (N := 100) rfl rfl (by decide) rfl rfl rfl (by decide) wa_int rfl fun h157 q158 =>
    qz_putR (k1 := 40) kw_12 fp_Md_148_Md_init rfl rfl fun h159 =>
    qz_aload_n rfl <|
    qz_bipush rfl <|
    qz_newa (N := 100) rfl rfl (by decide) rfl rfl rfl (by decide) wa_int rfl fun h160 q161 =>
    qz_putR (k1 := 40) kw_12 fp_Md_151_Md_init rfl rfl fun h162 =>
    qz_aload_n rfl <|
    qz_bipush rfl <|
    qz_newa (N := 100) rfl rfl (by decide) rfl rfl rfl (by decide) wa_int rfl fun h163 q164 =>
    qz_putR (k1 := 40) kw_12 fp_Md_154_Md_init rfl rfl fun h165 =>
    qz_aload_n rfl <|
    qz_bipush rfl <|
    qz_newa (N := 12) rfl rfl (by decide) rfl rfl rfl (by decide) wa_int rfl fun h166 q167 =>
    qz_putR (k1 := 40) kw_12 fp_Md_157_Md_init rfl rfl fun h168 =>
    qz_aload_n rfl <|
    qz_bipush rfl <|
    qz_newa (N := 12) rfl rfl (by decide) rfl rfl rfl (by decide) wa_boolean rfl fun h169 q170 =>
    qz_putR (k1 := 44) kw_12 fp_Md_160_Md_init rfl rfl fun h171 =>
    qz_aload_n rfl <|
    qz_bipush rfl <|
    qz_newa (N := 12) rfl rfl (by decide) rfl rfl rfl (by decide) wa_boolean rfl fun h172 q173 =>
    qz_putR (k1 := 44) kw_12 fp_Md_164_Md_init rfl rfl fun h174 =>
    qz_aload_n rfl <|
    qz_bipush rfl <|
    qz_newa (N := 12) rfl rfl (by decide) rfl rfl rfl (by decide) wa_int rfl fun h175 q176 =>
    qz_putR (k1 := 40) kw_12 fp_Md_167_Md_init rfl rfl fun h177 =>
    qz_aload_n rfl <|
    qz_bipush rfl <|
    qz_newa (N := 12) rfl rfl (by decide) rfl rfl rfl (by decide) wa_int rfl fun h178 q179 =>
    qz_putR (k1 := 40) kw_12 fp_Md_170_Md_init rfl rfl fun h180 =>
    qz_aload_n rfl <|
    qz_bipush rfl <|
    qz_newa (N := 12) rfl rfl (by decide) rfl rfl rfl (by decide) wa_long rfl fun h181 q182 =>
    qz_putR (k1 := 41) kw_12 fp_Md_173_Md_init rfl rfl fun h183 =>
    qz_aload_n rfl <|
    qz_bipush rfl <|
    qz_newa (N := 12) rfl rfl (by decide) rfl rfl rfl (by decide) wa_int rfl fun h184 q185 =>
    qz_putR (k1 := 40) kw_12 fp_Md_176_Md_init rfl rfl fun h186 =>
    qz_aload_n rfl <|
    qz_bipush rfl <|
    qz_newa (N := 80) rfl rfl (by decide) rfl rfl rfl (by decide) wa_int rfl fun h187 q188 =>
    qz_putR (k1 := 40) kw_12 fp_Md_179_Md_init rfl rfl fun h189 =>
    qz_aload_n rfl <|
    qz_bipush rfl <|
    qz_newa (N := 14) rfl rfl (by decide) rfl rfl rfl (by decide) wa_int rfl fun h190 q191 =>
    qz_putR (k1 := 40) kw_12 fp_Md_182_Md_init rfl rfl fun h192 =>
    qz_aload_n rfl <|
    qz_bipush rfl <|
    qz_newa (N := 14) rfl rfl (by decide) rfl rfl rfl (by decide) wa_int rfl fun h193 q194 =>
    qz_putR (k1 := 40) kw_12 fp_Md_185_Md_init rfl rfl fun h195 =>
    qz_aload_n rfl <|
    qz_bipush rfl <|
    qz_newa (N := 14) rfl rfl (by decide) rfl rfl rfl (by decide) wa_int rfl fun h196 q197 =>
    qz_putR (k1 := 40) kw_12 fp_Md_188_Md_init rfl rfl fun h198 =>
    qz_aload_n rfl <|
    qz_bipush rfl <|
    qz_newa (N := 14) rfl rfl (by decide) rfl rfl rfl (by decide) wa_int rfl fun h199 q200 =>
    qz_putR (k1 := 40) kw_12 fp_Md_191_Md_init rfl rfl fun h201 =>
    qz_aload_n rfl <|
    qz_bipush rfl <|
    qz_newa (N := 14) rfl rfl (by decide) rfl rfl rfl (by decide) wa_boolean rfl fun h202 q203 =>
    qz_putR (k1 := 44) kw_12 fp_Md_194_Md_init rfl rfl fun h204 =>
    qz_aload_n rfl <|
    qz_sipush rfl <|
    qz_newa (N := 1400) rfl rfl (by decide) rfl rfl rfl (by decide) wa_int rfl fun h205 q206 =>
    qz_putR (k1 := 40) kw_12 fp_Md_197_Md_init rfl rfl fun h207 =>
    qz_aload_n rfl <|
    qz_sipush rfl <|
    qz_newa (N := 1400) rfl rfl (by decide) rfl rfl rfl (by decide) wa_int rfl fun h208 q209 =>
    qz_putR (k1 := 40) kw_12 fp_Md_200_Md_init rfl rfl fun h210 =>
    qz_aload_n rfl <|
    qz_sipush rfl <|
    qz_newa (N := 320) rfl rfl (by decide) rfl rfl rfl (by decide) wa_char rfl fun h211 q212 =>
    qz_putR (k1 := 42) kw_12 fp_Md_203_Md_init rfl rfl fun h213 =>
    qz_return ⟨rfl, rfl⟩ rfl
def fn_Md_thrown (l0 : Int) (h : qz_H) : Option qz_R :=
  some (h l0 3, h)
def bk_Md_thrown_0 : List (Instr × Nat) := [(.aload_n 0, 1), (.getfield 206, 3), (.ireturn, 1)]
theorem ca_Md_thrown_0 : qz_ca yd_Md_thrown.2.1 0 bk_Md_thrown_0 := qz_cab_ok _ _ (by decide +kernel)
set_option maxRecDepth 20000 in
theorem cn_Md_thrown (l0 : Int) (h : qz_H) : qz_C yd_Md_thrown [qz_r true 12 l0] h (fn_Md_thrown l0 h) := by
  refine qz_con (is := bk_Md_thrown_0) (ls := [qz_r true 12 l0]) mw_Md_thrown.2.2.2 ca_Md_thrown_0 rfl rfl fun G => ?_
  unfold fn_Md_thrown bk_Md_thrown_0; exact
    qz_aload_n rfl <|
    qz_getI kg_12 fl_Md_206 rfl rfl <|
    qz_ireturn ⟨rfl, rfl⟩ rfl
def fn_Md_raise (l0 : Int) (l1 : Int) (h : qz_H) : Option qz_R :=
  qz_ck ((0 : Int) < l0) <|
  qz_bn (qz_up h l0 3 l1) fun h1 =>
  some (0, h1)
def bk_Md_raise_0 : List (Instr × Nat) := [(.aload_n 0, 1), (.iload_n 1, 1), (.putfield 206, 3), (.iconst 0, 1), (.ireturn, 1)]
theorem ca_Md_raise_0 : qz_ca yd_Md_raise.2.1 0 bk_Md_raise_0 := qz_cab_ok _ _ (by decide +kernel)
set_option maxRecDepth 20000 in
theorem cn_Md_raise (l0 : Int) (l1 : Int) (h : qz_H) : qz_C yd_Md_raise [qz_r true 12 l0, qz_i l1] h (fn_Md_raise l0 l1 h) := by
  refine qz_con (is := bk_Md_raise_0) (ls := [qz_r true 12 l0, qz_i l1]) mw_Md_raise.2.2.2 ca_Md_raise_0 rfl rfl fun G => ?_
  unfold fn_Md_raise bk_Md_raise_0; exact
    qz_aload_n rfl <|
    qz_iload_n rfl <|
    qz_putI kw_12 fp_Md_206_Md_raise rfl rfl fun h1 =>
    qz_iconst rfl <|
    qz_ireturn ⟨rfl, rfl⟩ rfl
