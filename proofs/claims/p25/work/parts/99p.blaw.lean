/-! ALL THAT IS ALIKE IN BOTH, in the law's loop. Written by wip/law/bgen.py. -/
def iv_0 : ai_S := ([(.ofNat 0, .ofNat 400), (.ofNat 0, .ofNat 12), (.ofNat 0, .ofNat 12), (.ofNat 4, .ofNat 16), (.ofNat 1, .ofNat 4), (.ofNat 4, .ofNat 16), (.ofNat 1, .ofNat 4), (.ofNat 0, .ofNat 4), (.ofNat 0, .ofNat 4)], [], [], [(false, some (.inr (.inr (7, [.inr (some (.ref 15)), .inr (some (.ref 17)), .inr (some (.ref 21)), .inr (some (.ref 26)), .inr (some (.ref 32)), .inr (some (.ref 35)), .inr (some (.ref 34)), .inr (some (.ref 50)), .inr (some (.ref 33)), .inr (some (.ref 1)), .inr (some (.ref 8)), .inl (false, (.ofNat 0, .ofNat 12, [(1, .ofNat 0, .ofNat 0)])), .inl (false, (.ofNat 0, .ofNat 6, [])), .inl (false, (.ofNat 0, .ofNat 4, [(8, .ofNat 0, .ofNat 0)]))])))), (false, some (.inr (.inr (6, [.inr (some (.ref 2)), .inr (some (.ref 3)), .inr (some (.ref 4)), .inr (some (.ref 5)), .inr (some (.ref 6)), .inr (some (.ref 7)), .inl (false, (.ofNat 4, .ofNat 16, [(3, .ofNat 0, .ofNat 0)])), .inl (false, (.ofNat 1, .ofNat 4, [(4, .ofNat 0, .ofNat 0)])), .inl (false, (.negSucc 2147483647, .ofNat 2147483647, [])), .inl (false, (.negSucc 2147483647, .ofNat 2147483647, [])), .inl (false, (.negSucc 2147483647, .ofNat 2147483647, [])), .inl (false, (.ofNat 0, .ofNat 60, [])), .inl (false, (.ofNat 0, .ofNat 5, [])), .inl (false, (.ofNat 0, .ofNat 4, []))])))), (false, some (.inl (.int, [(4, (.negSucc 2147483647, .ofNat 2147483647, []))]))), (false, some (.inl (.int, [(17, (.negSucc 2147483647, .ofNat 2147483647, []))]))), (false, some (.inl (.int, [(60, (.negSucc 2147483647, .ofNat 2147483647, []))]))), (false, some (.inl (.int, [(5, (.negSucc 2147483647, .ofNat 2147483647, []))]))), (false, some (.inl (.int, [(4, (.negSucc 2147483647, .ofNat 2147483647, []))]))), (false, some (.inl (.int, [(4, (.negSucc 2147483647, .ofNat 2147483647, []))]))), (false, some (.inr (.inr (6, [.inr (some (.ref 9)), .inr (some (.ref 10)), .inr (some (.ref 11)), .inr (some (.ref 12)), .inr (some (.ref 13)), .inr (some (.ref 14)), .inl (false, (.ofNat 4, .ofNat 16, [])), .inl (false, (.ofNat 1, .ofNat 4, [])), .inl (false, (.negSucc 2147483647, .ofNat 2147483647, [])), .inl (false, (.negSucc 2147483647, .ofNat 2147483647, [])), .inl (false, (.negSucc 2147483647, .ofNat 2147483647, [])), .inl (false, (.ofNat 0, .ofNat 60, [])), .inl (false, (.ofNat 0, .ofNat 5, [])), .inl (false, (.ofNat 0, .ofNat 4, []))])))), (false, some (.inl (.int, [(4, (.negSucc 2147483647, .ofNat 2147483647, []))]))), (false, some (.inl (.int, [(17, (.negSucc 2147483647, .ofNat 2147483647, []))]))), (false, some (.inl (.int, [(60, (.negSucc 2147483647, .ofNat 2147483647, []))]))), (false, some (.inl (.int, [(5, (.negSucc 2147483647, .ofNat 2147483647, []))]))), (false, some (.inl (.int, [(4, (.negSucc 2147483647, .ofNat 2147483647, []))]))), (false, some (.inl (.int, [(4, (.negSucc 2147483647, .ofNat 2147483647, []))]))), (false, some (.inr (.inr (5, [.inr (some (.ref 16)), .inl (false, (.ofNat 0, .ofNat 400, [])), .inl (false, (.ofNat 0, .ofNat 6, [])), .inl (false, (.ofNat 0, .ofNat 400, [])), .inr none, .inl (false, (.negSucc 2147483647, .ofNat 2147483647, [])), .inl (false, (.ofNat 0, .ofNat 400, [])), .inl (false, (.ofNat 0, .ofNat 3, [])), .inl (false, (.ofNat 0, .ofNat 400, [])), .inl (false, (.negSucc 2147483647, .ofNat 2147483647, []))])))), (false, some (.inl (.byte, [(400, (.negSucc 127, .ofNat 127, []))]))), (false, some (.inr (.inr (0, [.inr (some (.ref 18)), .inr (some (.ref 19)), .inr (some (.ref 20)), .inr none, .inl (false, (.ofNat 0, .ofNat 128, []))])))), (false, some (.inl (.int, [(128, (.ofNat 0, .ofNat 16, []))]))), (false, some (.inl (.int, [(128, (.negSucc 0, .ofNat 127, []))]))), (false, some (.inl (.int, [(17, (.negSucc 0, .ofNat 127, []))]))), (false, some (.inr (.inr (2, [.inr (some (.ref 17)), .inr (some (.ref 22)), .inr (some (.ref 23)), .inr (some (.ref 24)), .inr (some (.ref 25)), .inl (false, (.ofNat 0, .ofNat 5, [])), .inl (false, (.negSucc 2147483647, .ofNat 2147483647, []))])))), (false, some (.inl (.int, [(5, (.negSucc 2147483647, .ofNat 2147483647, []))]))), (false, some (.inl (.int, [(6, (.negSucc 2147483647, .ofNat 2147483647, []))]))), (false, some (.inl (.int, [(5, (.ofNat 0, .ofNat 16, []))]))), (false, some (.inl (.int, [(5, (.ofNat 0, .ofNat 16, []))]))), (false, some (.inr (.inr (1, [.inr (some (.ref 17)), .inr (some (.ref 27)), .inr (some (.ref 28)), .inr (some (.ref 29)), .inr (some (.ref 30)), .inr (some (.ref 31)), .inl (false, (.ofNat 0, .ofNat 4, [])), .inl (false, (.negSucc 2147483647, .ofNat 2147483647, []))])))), (false, some (.inl (.int, [(4, (.negSucc 2147483647, .ofNat 2147483647, []))]))), (false, some (.inl (.int, [(4, (.ofNat 0, .ofNat 4, []))]))), (false, some (.inl (.int, [(4, (.ofNat 0, .ofNat 16, []))]))), (false, some (.inl (.int, [(4, (.ofNat 0, .ofNat 4, []))]))), (false, some (.inl (.int, [(4, (.ofNat 0, .ofNat 16, []))]))), (false, some (.inr (.inr (3, [.inl (false, (.ofNat 0, .ofNat 16, [])), .inl (false, (.negSucc 2147483647, .ofNat 2147483647, [])), .inl (false, (.negSucc 2147483647, .ofNat 2147483647, [])), .inl (false, (.negSucc 2147483647, .ofNat 2147483647, [])), .inl (false, (.negSucc 2147483647, .ofNat 2147483647, []))])))), (false, some (.inl (.int, [(12, (.ofNat 0, .ofNat 16, []))]))), (false, some (.inl (.boolean, [(2, (.ofNat 0, .ofNat 1, []))]))), (false, some (.inr (.inl (6, [some 36, some 43])))), (false, some (.inr (.inr (6, [.inr (some (.ref 37)), .inr (some (.ref 38)), .inr (some (.ref 39)), .inr (some (.ref 40)), .inr (some (.ref 41)), .inr (some (.ref 42)), .inl (false, (.ofNat 4, .ofNat 16, [])), .inl (false, (.ofNat 1, .ofNat 4, [])), .inl (false, (.negSucc 2147483647, .ofNat 2147483647, [])), .inl (false, (.negSucc 2147483647, .ofNat 2147483647, [])), .inl (false, (.negSucc 2147483647, .ofNat 2147483647, [])), .inl (false, (.ofNat 0, .ofNat 60, [])), .inl (false, (.ofNat 0, .ofNat 5, [])), .inl (false, (.ofNat 0, .ofNat 4, []))])))), (false, some (.inl (.int, [(4, (.negSucc 2147483647, .ofNat 2147483647, []))]))), (false, some (.inl (.int, [(17, (.negSucc 2147483647, .ofNat 2147483647, []))]))), (false, some (.inl (.int, [(60, (.negSucc 2147483647, .ofNat 2147483647, []))]))), (false, some (.inl (.int, [(5, (.negSucc 2147483647, .ofNat 2147483647, []))]))), (false, some (.inl (.int, [(4, (.negSucc 2147483647, .ofNat 2147483647, []))]))), (false, some (.inl (.int, [(4, (.negSucc 2147483647, .ofNat 2147483647, []))]))), (false, some (.inr (.inr (6, [.inr (some (.ref 44)), .inr (some (.ref 45)), .inr (some (.ref 46)), .inr (some (.ref 47)), .inr (some (.ref 48)), .inr (some (.ref 49)), .inl (false, (.ofNat 4, .ofNat 16, [])), .inl (false, (.ofNat 1, .ofNat 4, [])), .inl (false, (.negSucc 2147483647, .ofNat 2147483647, [])), .inl (false, (.negSucc 2147483647, .ofNat 2147483647, [])), .inl (false, (.negSucc 2147483647, .ofNat 2147483647, [])), .inl (false, (.ofNat 0, .ofNat 60, [])), .inl (false, (.ofNat 0, .ofNat 5, [])), .inl (false, (.ofNat 0, .ofNat 4, []))])))), (false, some (.inl (.int, [(4, (.negSucc 2147483647, .ofNat 2147483647, []))]))), (false, some (.inl (.int, [(17, (.negSucc 2147483647, .ofNat 2147483647, []))]))), (false, some (.inl (.int, [(60, (.negSucc 2147483647, .ofNat 2147483647, []))]))), (false, some (.inl (.int, [(5, (.negSucc 2147483647, .ofNat 2147483647, []))]))), (false, some (.inl (.int, [(4, (.negSucc 2147483647, .ofNat 2147483647, []))]))), (false, some (.inl (.int, [(4, (.negSucc 2147483647, .ofNat 2147483647, []))]))), (false, some (.inr (.inl (4, [some 51, some 53, some 55, some 57])))), (false, some (.inr (.inr (4, [.inr (some (.ref 52)), .inl (false, (.negSucc 0, .ofNat 2, [])), .inl (false, (.ofNat 0, .ofNat 40, []))])))), (false, some (.inl (.int, [(40, (.negSucc 2147483647, .ofNat 2147483647, []))]))), (false, some (.inr (.inr (4, [.inr (some (.ref 54)), .inl (false, (.negSucc 0, .ofNat 2, [])), .inl (false, (.ofNat 0, .ofNat 40, []))])))), (false, some (.inl (.int, [(40, (.negSucc 2147483647, .ofNat 2147483647, []))]))), (false, some (.inr (.inr (4, [.inr (some (.ref 56)), .inl (false, (.negSucc 0, .ofNat 2, [])), .inl (false, (.ofNat 0, .ofNat 40, []))])))), (false, some (.inl (.int, [(40, (.negSucc 2147483647, .ofNat 2147483647, []))]))), (false, some (.inr (.inr (4, [.inr (some (.ref 58)), .inl (false, (.negSucc 0, .ofNat 2, [])), .inl (false, (.ofNat 0, .ofNat 40, []))])))), (false, some (.inl (.int, [(40, (.negSucc 2147483647, .ofNat 2147483647, []))]))), (false, some (.inr (.inr (8, [.inr (some (.ref 60)), .inr (some (.ref 61)), .inl (false, (.ofNat 4, .ofNat 16, [(5, .ofNat 0, .ofNat 0)])), .inl (false, (.ofNat 1, .ofNat 4, [(6, .ofNat 0, .ofNat 0)])), .inr (some (.ref 62)), .inr (some (.ref 63)), .inl (false, (.ofNat 0, .ofNat 12, [(2, .ofNat 0, .ofNat 0)])), .inr (some (.ref 64)), .inl (false, (.ofNat 0, .ofNat 16, [])), .inl (false, (.ofNat 0, .ofNat 4, [])), .inr (some (.ref 65)), .inl (false, (.negSucc 2147483647, .ofNat 2147483647, [])), .inl (false, (.ofNat 0, .ofNat 16, [])), .inl (false, (.negSucc 3, .ofNat 3, [])), .inr (some (.ref 66)), .inl (false, (.ofNat 0, .ofNat 400, [(0, .ofNat 0, .ofNat 0)])), .inl (false, (.ofNat 0, .ofNat 400, [])), .inl (false, (.ofNat 0, .ofNat 400, [])), .inl (false, (.ofNat 0, .ofNat 3, [])), .inl (false, (.negSucc 2147483647, .ofNat 2147483647, [])), .inl (false, (.ofNat 0, .ofNat 6, [])), .inl (false, (.ofNat 0, .ofNat 400, [])), .inr (some (.ref 67)), .inl (false, (.ofNat 0, .ofNat 130, [])), .inr (some (.ref 68)), .inr (some (.ref 69)), .inl (false, (.negSucc 2147483647, .ofNat 2147483647, [])), .inr (some (.ref 70)), .inr (some (.ref 71)), .inr (some (.ref 72)), .inr (some (.ref 73)), .inr (some (.ref 74)), .inr (some (.ref 75)), .inl (false, (.ofNat 0, .ofNat 4, [(7, .ofNat 0, .ofNat 0)]))])))), (false, some (.inl (.int, [(1, (.ofNat 0, .ofNat 60, [])), (60, (.ofNat 0, .ofNat 16, [])), (17, (.negSucc 3, .ofNat 3, [])), (1, (.ofNat 0, .ofNat 20, [])), (1, (.ofNat 0, .ofNat 1, [])), (1, (.negSucc 3, .ofNat 2, [])), (1, (.ofNat 0, .ofNat 5, [])), (5, (.ofNat 0, .ofNat 3, [])), (1, (.ofNat 0, .ofNat 4, [])), (8, (.ofNat 0, .ofNat 4, [])), (1, (.ofNat 0, .ofNat 60, [])), (60, (.ofNat 0, .ofNat 16, [])), (17, (.negSucc 3, .ofNat 3, [])), (1, (.ofNat 0, .ofNat 20, [])), (1, (.ofNat 0, .ofNat 1, [])), (1, (.negSucc 3, .ofNat 2, [])), (1, (.ofNat 0, .ofNat 5, [])), (5, (.ofNat 0, .ofNat 3, [])), (1, (.ofNat 0, .ofNat 4, [])), (8, (.ofNat 0, .ofNat 4, [])), (1, (.ofNat 0, .ofNat 60, [])), (60, (.ofNat 0, .ofNat 16, [])), (17, (.negSucc 3, .ofNat 3, [])), (1, (.ofNat 0, .ofNat 20, [])), (1, (.ofNat 0, .ofNat 1, [])), (1, (.negSucc 3, .ofNat 2, [])), (1, (.ofNat 0, .ofNat 5, [])), (5, (.ofNat 0, .ofNat 3, [])), (1, (.ofNat 0, .ofNat 4, [])), (8, (.ofNat 0, .ofNat 4, []))]))), (false, some (.inl (.boolean, [(2, (.ofNat 0, .ofNat 1, []))]))), (false, some (.inl (.int, [(4, (.ofNat 1, .ofNat 9, []))]))), (false, some (.inl (.int, [(12, (.ofNat 0, .ofNat 16, []))]))), (false, some (.inl (.int, [(1, (.ofNat 0, .ofNat 60, [])), (60, (.ofNat 0, .ofNat 16, [])), (17, (.negSucc 3, .ofNat 3, [])), (1, (.ofNat 0, .ofNat 20, [])), (1, (.ofNat 0, .ofNat 1, [])), (1, (.negSucc 3, .ofNat 2, [])), (1, (.ofNat 0, .ofNat 5, [])), (5, (.ofNat 0, .ofNat 3, [])), (1, (.ofNat 0, .ofNat 4, [])), (8, (.ofNat 0, .ofNat 4, []))]))), (false, some (.inl (.int, [(4, (.ofNat 1, .ofNat 9, []))]))), (false, some (.inl (.int, [(400, (.ofNat 0, .ofNat 255, []))]))), (false, some (.inl (.int, [(130, (.negSucc 3, .ofNat 16, []))]))), (false, some (.inl (.int, [(5, (.ofNat 0, .ofNat 3, []))]))), (false, some (.inl (.int, [(5, (.negSucc 3, .ofNat 16, []))]))), (false, some (.inl (.int, [(17, (.negSucc 3, .ofNat 3, []))]))), (false, some (.inl (.int, [(1, (.ofNat 0, .ofNat 128, [])), (1, (.ofNat 0, .ofNat 128, [])), (1, (.ofNat 0, .ofNat 128, [])), (1, (.ofNat 0, .ofNat 128, [])), (1, (.ofNat 0, .ofNat 128, []))]))), (false, some (.inl (.int, [(5, (.ofNat 0, .ofNat 128, []))]))), (false, some (.inl (.int, [(1, (.negSucc 3, .ofNat 2, [])), (1, (.negSucc 3, .ofNat 2, [])), (1, (.negSucc 3, .ofNat 2, [])), (1, (.negSucc 3, .ofNat 2, []))]))), (false, some (.inl (.int, [(1, (.ofNat 0, .ofNat 40, [])), (1, (.ofNat 0, .ofNat 40, [])), (1, (.ofNat 0, .ofNat 40, [])), (1, (.ofNat 0, .ofNat 40, []))]))), (false, some (.inl (.int, [(160, (.negSucc 2147483647, .ofNat 2147483647, []))])))])
def iv_1 : ai_S := ([(.ofNat 0, .ofNat 400), (.ofNat 0, .ofNat 12), (.ofNat 0, .ofNat 12), (.ofNat 4, .ofNat 16), (.ofNat 1, .ofNat 4), (.ofNat 4, .ofNat 16), (.ofNat 1, .ofNat 4), (.ofNat 0, .ofNat 4), (.ofNat 0, .ofNat 4)], [], [], [(false, some (.inr (.inr (7, [.inr (some (.ref 15)), .inr (some (.ref 17)), .inr (some (.ref 21)), .inr (some (.ref 26)), .inr (some (.ref 32)), .inr (some (.ref 35)), .inr (some (.ref 34)), .inr (some (.ref 50)), .inr (some (.ref 33)), .inr (some (.ref 8)), .inr (some (.ref 1)), .inl (false, (.ofNat 0, .ofNat 12, [(1, .ofNat 0, .ofNat 0)])), .inl (false, (.ofNat 0, .ofNat 6, [])), .inl (false, (.ofNat 0, .ofNat 4, [(8, .ofNat 0, .ofNat 0)]))])))), (false, some (.inr (.inr (6, [.inr (some (.ref 2)), .inr (some (.ref 3)), .inr (some (.ref 4)), .inr (some (.ref 5)), .inr (some (.ref 6)), .inr (some (.ref 7)), .inl (false, (.ofNat 4, .ofNat 16, [])), .inl (false, (.ofNat 1, .ofNat 4, [])), .inl (false, (.negSucc 2147483647, .ofNat 2147483647, [])), .inl (false, (.negSucc 2147483647, .ofNat 2147483647, [])), .inl (false, (.negSucc 2147483647, .ofNat 2147483647, [])), .inl (false, (.ofNat 0, .ofNat 60, [])), .inl (false, (.ofNat 0, .ofNat 5, [])), .inl (false, (.ofNat 0, .ofNat 4, []))])))), (false, some (.inl (.int, [(4, (.negSucc 2147483647, .ofNat 2147483647, []))]))), (false, some (.inl (.int, [(17, (.negSucc 2147483647, .ofNat 2147483647, []))]))), (false, some (.inl (.int, [(60, (.negSucc 2147483647, .ofNat 2147483647, []))]))), (false, some (.inl (.int, [(5, (.negSucc 2147483647, .ofNat 2147483647, []))]))), (false, some (.inl (.int, [(4, (.negSucc 2147483647, .ofNat 2147483647, []))]))), (false, some (.inl (.int, [(4, (.negSucc 2147483647, .ofNat 2147483647, []))]))), (false, some (.inr (.inr (6, [.inr (some (.ref 9)), .inr (some (.ref 10)), .inr (some (.ref 11)), .inr (some (.ref 12)), .inr (some (.ref 13)), .inr (some (.ref 14)), .inl (false, (.ofNat 4, .ofNat 16, [(3, .ofNat 0, .ofNat 0)])), .inl (false, (.ofNat 1, .ofNat 4, [(4, .ofNat 0, .ofNat 0)])), .inl (false, (.negSucc 2147483647, .ofNat 2147483647, [])), .inl (false, (.negSucc 2147483647, .ofNat 2147483647, [])), .inl (false, (.negSucc 2147483647, .ofNat 2147483647, [])), .inl (false, (.ofNat 0, .ofNat 60, [])), .inl (false, (.ofNat 0, .ofNat 5, [])), .inl (false, (.ofNat 0, .ofNat 4, []))])))), (false, some (.inl (.int, [(4, (.negSucc 2147483647, .ofNat 2147483647, []))]))), (false, some (.inl (.int, [(17, (.negSucc 2147483647, .ofNat 2147483647, []))]))), (false, some (.inl (.int, [(60, (.negSucc 2147483647, .ofNat 2147483647, []))]))), (false, some (.inl (.int, [(5, (.negSucc 2147483647, .ofNat 2147483647, []))]))), (false, some (.inl (.int, [(4, (.negSucc 2147483647, .ofNat 2147483647, []))]))), (false, some (.inl (.int, [(4, (.negSucc 2147483647, .ofNat 2147483647, []))]))), (false, some (.inr (.inr (5, [.inr (some (.ref 16)), .inl (false, (.ofNat 0, .ofNat 400, [])), .inl (false, (.ofNat 0, .ofNat 6, [])), .inl (false, (.ofNat 0, .ofNat 400, [])), .inr none, .inl (false, (.negSucc 2147483647, .ofNat 2147483647, [])), .inl (false, (.ofNat 0, .ofNat 400, [])), .inl (false, (.ofNat 0, .ofNat 3, [])), .inl (false, (.ofNat 0, .ofNat 400, [])), .inl (false, (.negSucc 2147483647, .ofNat 2147483647, []))])))), (false, some (.inl (.byte, [(400, (.negSucc 127, .ofNat 127, []))]))), (false, some (.inr (.inr (0, [.inr (some (.ref 18)), .inr (some (.ref 19)), .inr (some (.ref 20)), .inr none, .inl (false, (.ofNat 0, .ofNat 128, []))])))), (false, some (.inl (.int, [(128, (.ofNat 0, .ofNat 16, []))]))), (false, some (.inl (.int, [(128, (.negSucc 0, .ofNat 127, []))]))), (false, some (.inl (.int, [(17, (.negSucc 0, .ofNat 127, []))]))), (false, some (.inr (.inr (2, [.inr (some (.ref 17)), .inr (some (.ref 22)), .inr (some (.ref 23)), .inr (some (.ref 24)), .inr (some (.ref 25)), .inl (false, (.ofNat 0, .ofNat 5, [])), .inl (false, (.negSucc 2147483647, .ofNat 2147483647, []))])))), (false, some (.inl (.int, [(5, (.negSucc 2147483647, .ofNat 2147483647, []))]))), (false, some (.inl (.int, [(6, (.negSucc 2147483647, .ofNat 2147483647, []))]))), (false, some (.inl (.int, [(5, (.ofNat 0, .ofNat 16, []))]))), (false, some (.inl (.int, [(5, (.ofNat 0, .ofNat 16, []))]))), (false, some (.inr (.inr (1, [.inr (some (.ref 17)), .inr (some (.ref 27)), .inr (some (.ref 28)), .inr (some (.ref 29)), .inr (some (.ref 30)), .inr (some (.ref 31)), .inl (false, (.ofNat 0, .ofNat 4, [])), .inl (false, (.negSucc 2147483647, .ofNat 2147483647, []))])))), (false, some (.inl (.int, [(4, (.negSucc 2147483647, .ofNat 2147483647, []))]))), (false, some (.inl (.int, [(4, (.ofNat 0, .ofNat 4, []))]))), (false, some (.inl (.int, [(4, (.ofNat 0, .ofNat 16, []))]))), (false, some (.inl (.int, [(4, (.ofNat 0, .ofNat 4, []))]))), (false, some (.inl (.int, [(4, (.ofNat 0, .ofNat 16, []))]))), (false, some (.inr (.inr (3, [.inl (false, (.ofNat 0, .ofNat 16, [])), .inl (false, (.negSucc 2147483647, .ofNat 2147483647, [])), .inl (false, (.negSucc 2147483647, .ofNat 2147483647, [])), .inl (false, (.negSucc 2147483647, .ofNat 2147483647, [])), .inl (false, (.negSucc 2147483647, .ofNat 2147483647, []))])))), (false, some (.inl (.int, [(12, (.ofNat 0, .ofNat 16, []))]))), (false, some (.inl (.boolean, [(2, (.ofNat 0, .ofNat 1, []))]))), (false, some (.inr (.inl (6, [some 36, some 43])))), (false, some (.inr (.inr (6, [.inr (some (.ref 37)), .inr (some (.ref 38)), .inr (some (.ref 39)), .inr (some (.ref 40)), .inr (some (.ref 41)), .inr (some (.ref 42)), .inl (false, (.ofNat 4, .ofNat 16, [])), .inl (false, (.ofNat 1, .ofNat 4, [])), .inl (false, (.negSucc 2147483647, .ofNat 2147483647, [])), .inl (false, (.negSucc 2147483647, .ofNat 2147483647, [])), .inl (false, (.negSucc 2147483647, .ofNat 2147483647, [])), .inl (false, (.ofNat 0, .ofNat 60, [])), .inl (false, (.ofNat 0, .ofNat 5, [])), .inl (false, (.ofNat 0, .ofNat 4, []))])))), (false, some (.inl (.int, [(4, (.negSucc 2147483647, .ofNat 2147483647, []))]))), (false, some (.inl (.int, [(17, (.negSucc 2147483647, .ofNat 2147483647, []))]))), (false, some (.inl (.int, [(60, (.negSucc 2147483647, .ofNat 2147483647, []))]))), (false, some (.inl (.int, [(5, (.negSucc 2147483647, .ofNat 2147483647, []))]))), (false, some (.inl (.int, [(4, (.negSucc 2147483647, .ofNat 2147483647, []))]))), (false, some (.inl (.int, [(4, (.negSucc 2147483647, .ofNat 2147483647, []))]))), (false, some (.inr (.inr (6, [.inr (some (.ref 44)), .inr (some (.ref 45)), .inr (some (.ref 46)), .inr (some (.ref 47)), .inr (some (.ref 48)), .inr (some (.ref 49)), .inl (false, (.ofNat 4, .ofNat 16, [])), .inl (false, (.ofNat 1, .ofNat 4, [])), .inl (false, (.negSucc 2147483647, .ofNat 2147483647, [])), .inl (false, (.negSucc 2147483647, .ofNat 2147483647, [])), .inl (false, (.negSucc 2147483647, .ofNat 2147483647, [])), .inl (false, (.ofNat 0, .ofNat 60, [])), .inl (false, (.ofNat 0, .ofNat 5, [])), .inl (false, (.ofNat 0, .ofNat 4, []))])))), (false, some (.inl (.int, [(4, (.negSucc 2147483647, .ofNat 2147483647, []))]))), (false, some (.inl (.int, [(17, (.negSucc 2147483647, .ofNat 2147483647, []))]))), (false, some (.inl (.int, [(60, (.negSucc 2147483647, .ofNat 2147483647, []))]))), (false, some (.inl (.int, [(5, (.negSucc 2147483647, .ofNat 2147483647, []))]))), (false, some (.inl (.int, [(4, (.negSucc 2147483647, .ofNat 2147483647, []))]))), (false, some (.inl (.int, [(4, (.negSucc 2147483647, .ofNat 2147483647, []))]))), (false, some (.inr (.inl (4, [some 51, some 53, some 55, some 57])))), (false, some (.inr (.inr (4, [.inr (some (.ref 52)), .inl (false, (.negSucc 0, .ofNat 2, [])), .inl (false, (.ofNat 0, .ofNat 40, []))])))), (false, some (.inl (.int, [(40, (.negSucc 2147483647, .ofNat 2147483647, []))]))), (false, some (.inr (.inr (4, [.inr (some (.ref 54)), .inl (false, (.negSucc 0, .ofNat 2, [])), .inl (false, (.ofNat 0, .ofNat 40, []))])))), (false, some (.inl (.int, [(40, (.negSucc 2147483647, .ofNat 2147483647, []))]))), (false, some (.inr (.inr (4, [.inr (some (.ref 56)), .inl (false, (.negSucc 0, .ofNat 2, [])), .inl (false, (.ofNat 0, .ofNat 40, []))])))), (false, some (.inl (.int, [(40, (.negSucc 2147483647, .ofNat 2147483647, []))]))), (false, some (.inr (.inr (4, [.inr (some (.ref 58)), .inl (false, (.negSucc 0, .ofNat 2, [])), .inl (false, (.ofNat 0, .ofNat 40, []))])))), (false, some (.inl (.int, [(40, (.negSucc 2147483647, .ofNat 2147483647, []))]))), (false, some (.inr (.inr (8, [.inr (some (.ref 60)), .inr (some (.ref 61)), .inl (false, (.ofNat 4, .ofNat 16, [(5, .ofNat 0, .ofNat 0)])), .inl (false, (.ofNat 1, .ofNat 4, [(6, .ofNat 0, .ofNat 0)])), .inr (some (.ref 62)), .inr (some (.ref 63)), .inl (false, (.ofNat 0, .ofNat 12, [(2, .ofNat 0, .ofNat 0)])), .inr (some (.ref 64)), .inl (false, (.ofNat 0, .ofNat 16, [])), .inl (false, (.ofNat 0, .ofNat 4, [])), .inr (some (.ref 65)), .inl (false, (.negSucc 2147483647, .ofNat 2147483647, [])), .inl (false, (.ofNat 0, .ofNat 16, [])), .inl (false, (.negSucc 3, .ofNat 3, [])), .inr (some (.ref 66)), .inl (false, (.ofNat 0, .ofNat 400, [(0, .ofNat 0, .ofNat 0)])), .inl (false, (.ofNat 0, .ofNat 400, [])), .inl (false, (.ofNat 0, .ofNat 400, [])), .inl (false, (.ofNat 0, .ofNat 3, [])), .inl (false, (.negSucc 2147483647, .ofNat 2147483647, [])), .inl (false, (.ofNat 0, .ofNat 6, [])), .inl (false, (.ofNat 0, .ofNat 400, [])), .inr (some (.ref 67)), .inl (false, (.ofNat 0, .ofNat 130, [])), .inr (some (.ref 68)), .inr (some (.ref 69)), .inl (false, (.negSucc 2147483647, .ofNat 2147483647, [])), .inr (some (.ref 70)), .inr (some (.ref 71)), .inr (some (.ref 72)), .inr (some (.ref 73)), .inr (some (.ref 74)), .inr (some (.ref 75)), .inl (false, (.ofNat 0, .ofNat 4, [(7, .ofNat 0, .ofNat 0)]))])))), (false, some (.inl (.int, [(1, (.ofNat 0, .ofNat 60, [])), (60, (.ofNat 0, .ofNat 16, [])), (17, (.negSucc 3, .ofNat 3, [])), (1, (.ofNat 0, .ofNat 20, [])), (1, (.ofNat 0, .ofNat 1, [])), (1, (.negSucc 3, .ofNat 2, [])), (1, (.ofNat 0, .ofNat 5, [])), (5, (.ofNat 0, .ofNat 3, [])), (1, (.ofNat 0, .ofNat 4, [])), (8, (.ofNat 0, .ofNat 4, [])), (1, (.ofNat 0, .ofNat 60, [])), (60, (.ofNat 0, .ofNat 16, [])), (17, (.negSucc 3, .ofNat 3, [])), (1, (.ofNat 0, .ofNat 20, [])), (1, (.ofNat 0, .ofNat 1, [])), (1, (.negSucc 3, .ofNat 2, [])), (1, (.ofNat 0, .ofNat 5, [])), (5, (.ofNat 0, .ofNat 3, [])), (1, (.ofNat 0, .ofNat 4, [])), (8, (.ofNat 0, .ofNat 4, [])), (1, (.ofNat 0, .ofNat 60, [])), (60, (.ofNat 0, .ofNat 16, [])), (17, (.negSucc 3, .ofNat 3, [])), (1, (.ofNat 0, .ofNat 20, [])), (1, (.ofNat 0, .ofNat 1, [])), (1, (.negSucc 3, .ofNat 2, [])), (1, (.ofNat 0, .ofNat 5, [])), (5, (.ofNat 0, .ofNat 3, [])), (1, (.ofNat 0, .ofNat 4, [])), (8, (.ofNat 0, .ofNat 4, []))]))), (false, some (.inl (.boolean, [(2, (.ofNat 0, .ofNat 1, []))]))), (false, some (.inl (.int, [(4, (.ofNat 1, .ofNat 9, []))]))), (false, some (.inl (.int, [(12, (.ofNat 0, .ofNat 16, []))]))), (false, some (.inl (.int, [(1, (.ofNat 0, .ofNat 60, [])), (60, (.ofNat 0, .ofNat 16, [])), (17, (.negSucc 3, .ofNat 3, [])), (1, (.ofNat 0, .ofNat 20, [])), (1, (.ofNat 0, .ofNat 1, [])), (1, (.negSucc 3, .ofNat 2, [])), (1, (.ofNat 0, .ofNat 5, [])), (5, (.ofNat 0, .ofNat 3, [])), (1, (.ofNat 0, .ofNat 4, [])), (8, (.ofNat 0, .ofNat 4, []))]))), (false, some (.inl (.int, [(4, (.ofNat 1, .ofNat 9, []))]))), (false, some (.inl (.int, [(400, (.ofNat 0, .ofNat 255, []))]))), (false, some (.inl (.int, [(130, (.negSucc 3, .ofNat 16, []))]))), (false, some (.inl (.int, [(5, (.ofNat 0, .ofNat 3, []))]))), (false, some (.inl (.int, [(5, (.negSucc 3, .ofNat 16, []))]))), (false, some (.inl (.int, [(17, (.negSucc 3, .ofNat 3, []))]))), (false, some (.inl (.int, [(1, (.ofNat 0, .ofNat 128, [])), (1, (.ofNat 0, .ofNat 128, [])), (1, (.ofNat 0, .ofNat 128, [])), (1, (.ofNat 0, .ofNat 128, [])), (1, (.ofNat 0, .ofNat 128, []))]))), (false, some (.inl (.int, [(5, (.ofNat 0, .ofNat 128, []))]))), (false, some (.inl (.int, [(1, (.negSucc 3, .ofNat 2, [])), (1, (.negSucc 3, .ofNat 2, [])), (1, (.negSucc 3, .ofNat 2, [])), (1, (.negSucc 3, .ofNat 2, []))]))), (false, some (.inl (.int, [(1, (.ofNat 0, .ofNat 40, [])), (1, (.ofNat 0, .ofNat 40, [])), (1, (.ofNat 0, .ofNat 40, [])), (1, (.ofNat 0, .ofNat 40, []))]))), (false, some (.inl (.int, [(160, (.negSucc 2147483647, .ofNat 2147483647, []))])))])
def iv_l0 : List ai_L := [.inr (59, 15), .inr (0, 11), .inr (59, 6), .inr (1, 6), .inr (1, 7), .inr (59, 2), .inr (59, 3), .inr (59, 33), .inr (0, 13)]
def iv_l1 : List ai_L := [.inr (59, 15), .inr (0, 11), .inr (59, 6), .inr (8, 6), .inr (8, 7), .inr (59, 2), .inr (59, 3), .inr (59, 33), .inr (0, 13)]
def iv_s : List (ai_S × List ai_L) := [(iv_0, iv_l0), (iv_1, iv_l1)]
def bf_0 : List Nat := [1, 2, 3, 4, 5, 6, 7, 34, 35, 36, 37, 38, 39, 40, 41, 42, 43, 44, 45, 46, 47, 48, 49, 60, 61, 62]
def bf_1 : List Nat := [8, 9, 10, 11, 12, 13, 14, 34, 35, 36, 37, 38, 39, 40, 41, 42, 43, 44, 45, 46, 47, 48, 49, 60, 61, 62]
noncomputable def pr_QL (Is : List (ai_S × List ai_L)) (b : Bool) (F : List Nat) (Ls : List (ai_L × Nat)) (S : ai_S) : Bool := pr_Q Is b F S && pr_sy Ls S
/-- two calls, the cells that they leave, the numbers that they leave -/
theorem pr_goL {X : List Int32} {Is : List (ai_S × List ai_L)} {I : ai_S} {b : Bool} {F : List Nat} {Ls : List (ai_L × Nat)} {Mx Mm : ex_M} {ρ : List Int} {w : ex_W} {vs : List Value} (h : pr_TQ X (pr_QL Is b F Ls) Mx Mm ρ w vs) (hs : pr_sy Ls I = true) (H : ai_g ρ w I [] [] w) : ∃ (v1 v2 : Value) (wx wm : ex_W) (gs fs : List Value), (∃ z, ai_nz b v1 = some z) ∧ (∃ z, ai_nz b v2 = some z) ∧ ex_at w 0 = some (.inr (.inr (7, gs))) ∧ ex_at wx 59 = some (.inr (.inr (8, fs))) ∧ Go X 39 Mx (ex_ent Mx (.ref 0 :: vs)) w (some v1, wx) ∧ Go X 39 Mm (ex_ent Mm (.ref 59 :: vs)) wx (some v2, wm) ∧ pr_I Is wm ∧ (∀ p ∈ F, ex_at wm p = ex_at w p) ∧ ∀ q ∈ Ls, cn_look [] wm q.1 = cn_look [] w q.1 := by
  obtain ⟨r1, r2, wx, wm, gs, fs, S2, ρ2, h1, h2, g1, g2, hQ, hp, H2⟩ := h
  unfold pr_QL at hQ
  rw [Bool.and_eq_true] at hQ
  obtain ⟨v1, v2, wx', wm', gs', fs', a1, a2, b1, b2, k1, k2, hI, hF⟩ := pr_goF (X := X) (Is := Is) (b := b) (F := F) ⟨r1, r2, wx, wm, gs, fs, S2, ρ2, h1, h2, g1, g2, hQ.1, hp, H2⟩
  cases Go.det g1 k1
  cases Go.det g2 k2
  refine ⟨v1, v2, wx, wm, gs', fs', a1, a2, b1, b2, k1, k2, hI, hF, fun q hq => ?_⟩
  obtain ⟨z, c1, c2⟩ := pr_sy_g hs H q hq
  obtain ⟨y, d1, d2⟩ := pr_sy_g hQ.2 H2 q hq
  rw [c1, d1]
  obtain ⟨u, rfl⟩ := hp
  have hl : q.2 < ρ.length := (List.getElem?_eq_some_iff.mp c2).1
  rw [List.getElem?_append_left hl] at d2
  exact d2.symm.trans c2
theorem pr_one {I : ai_S × List ai_L} {w : ex_W} (h : pr_I [I] w) : ∃ ρ, ai_g ρ w I.1 [] [] w := by
  obtain ⟨J, hJ, ρ', H'⟩ := h
  obtain rfl := List.mem_singleton.mp hJ
  exact ⟨ρ', H'⟩
theorem gs_get {ρ : List Int} {m : Nat} {n : ai_N} {s2 : List (Nat × ai_N)} : ∀ (s1 : List (Nat × ai_N)) (l : List Int32) (j : Nat), ai_gs ρ (s1 ++ (m, n) :: s2) l → ai_sn s1 ≤ j → j < ai_sn s1 + m → ai_gn ρ n (l.getD j 0).toInt
  | [], l, j, h, _, hj => by
    have hj : j < 0 + m := hj
    have hj : j < m := by omega
    obtain ⟨h1, h2, -⟩ := h
    have h1 : m ≤ l.length := h1
    have hl : j < l.length := by omega
    refine h2 _ ?_
    rw [List.getD_eq_getElem?_getD, List.getElem?_eq_getElem hl]
    refine List.mem_of_getElem? (i := j) ?_
    show (l.take m)[j]? = _
    rw [List.getElem?_take_of_lt hj, List.getElem?_eq_getElem hl]
    rfl
  | q :: s1, l, j, h, h1, h2 => by
    obtain ⟨k1, k2, k3⟩ := h
    have h1 : q.1 + ai_sn s1 ≤ j := h1
    have h2 : j < q.1 + ai_sn s1 + m := h2
    have k := gs_get s1 (l.drop q.1) (j - q.1) k3 (by omega) (by omega)
    rw [List.getD_eq_getElem?_getD, List.getElem?_drop, show q.1 + (j - q.1) = j by omega, ← List.getD_eq_getElem?_getD] at k
    exact k
section FD
variable {w w' : ex_W} {p i c t : Nat} {fs fs' : List Value} {v : Int32}
theorem yrR.sm {gs' fs5' : List Value} {v' : Int32} (h : yrR w) (k0 : ex_at w' 0 = some (.inr (.inr (7, gs')))) (k8 : ex_at gs' 8 = some (.ref 33)) (k11 : ex_at gs' 11 = some (.int v)) (k59 : ex_at w' 59 = some (.inr (.inr (8, fs5')))) (k5 : ex_at fs5' 5 = some (.ref 63)) (k6 : ex_at fs5' 6 = some (.int v')) (e11 : fd w' 0 11 = fd w 0 11) (e6 : fd w' 59 6 = fd w 59 6) (e33 : ex_at w' 33 = ex_at w 33) (e63 : ex_at w' 63 = ex_at w 63) : yrR w' := by
  obtain ⟨gs, fs5, n, l, l', a1, a2, a3, a4, a5, a6, a7, a8, a9⟩ := h
  have r1 : v = nI n := fd_int k0 k11 (e11.trans (fd_obj a1 a3))
  have r2 : v' = nI n := fd_int k59 k6 (e6.trans (fd_obj a4 a6))
  subst r1
  subst r2
  exact ⟨gs', fs5', n, l, l', k0, k8, k11, k59, k5, k6, e33.trans a7, e63.trans a8, a9⟩
theorem yrR.eqs (h : yrR w) (e0 : ex_at w' 0 = ex_at w 0) (e59 : ex_at w' 59 = ex_at w 59) (e33 : ex_at w' 33 = ex_at w 33) (e63 : ex_at w' 63 = ex_at w 63) : yrR w' := by
  obtain ⟨gs, fs5, n, l, l', a1, a2, a3, a4, a5, a6, a7, a8, a9⟩ := h
  exact ⟨gs, fs5, n, l, l', e0.trans a1, a2, a3, e59.trans a4, a5, a6, e33.trans a7, e63.trans a8, a9⟩
theorem tpR.sm {fs5' : List Value} (h : tpR w) (k59 : ex_at w' 59 = some (.inr (.inr (8, fs5')))) (k15 : ex_at fs5' 15 = some (.int v)) (e : fd w' 59 15 = fd w 59 15) (e15 : ex_at w' 15 = ex_at w 15) (e16 : ex_at w' 16 = ex_at w 16) (e66 : ex_at w' 66 = ex_at w 66) : tpR w' := by
  obtain ⟨n, B, T, fs, fs5, a1, a2, a3, a4, a5, a6, a7⟩ := h
  have r : v = nI n := fd_int k59 k15 (e.trans (fd_obj a4 a5))
  subst r
  exact ⟨n, B, T, fs, fs5', e15.trans a1, a2, e16.trans a3, k59, k15, e66.trans a6, a7⟩
theorem tpR.eqs (h : tpR w) (e15 : ex_at w' 15 = ex_at w 15) (e16 : ex_at w' 16 = ex_at w 16) (e59 : ex_at w' 59 = ex_at w 59) (e66 : ex_at w' 66 = ex_at w 66) : tpR w' := by
  obtain ⟨n, B, T, fs, fs5, a1, a2, a3, a4, a5, a6, a7⟩ := h
  exact ⟨n, B, T, fs, fs5, e15.trans a1, a2, e16.trans a3, e59.trans a4, a5, e66.trans a6, a7⟩
theorem yrR.text0 {fs5 g5 N : List Value} (h : yrR w) (h0 : ex_at w 0 = some (.inr (.inr (7, fs)))) (h59 : ex_at w 59 = some (.inr (.inr (8, fs5)))) (e : fs5 = N) (k0 : ex_at w' 0 = some (.inr (.inr (7, ex_put fs 12 (.int v))))) (k59 : ex_at w' 59 = some (.inr (.inr (8, g5)))) (k7 : ∀ i, i < 7 → ex_at g5 i = ex_at N i) (e33 : ex_at w' 33 = ex_at w 33) (e63 : ex_at w' 63 = ex_at w 63) : yrR w' := by
  subst e
  obtain ⟨gs, gs5, n, l, l', a1, a2, a3, a4, a5, a6, a7, a8, a9⟩ := h
  obtain rfl := at_obj h0 a1
  obtain rfl := at_obj h59 a4
  exact ⟨_, g5, n, l, l', k0, vg_at_o rfl a2, vg_at_o rfl a3, k59, (k7 5 (by decide)).trans a5, (k7 6 (by decide)).trans a6, e33.trans a7, e63.trans a8, a9⟩
theorem yrR.text1 {dr : Nat} {g5 : List Value} (h : yrR w) (h0 : ex_at w 0 = some (.inr (.inr (7, fs)))) (f8 : ex_at fs 8 = some (.ref 33)) (k0 : ex_at w' 0 = some (.inr (.inr (7, ex_put (ex_put (ex_put (ex_put fs 12 (.int 0)) 9 (.ref dr)) 10 (.ref t)) 11 (.int 0))))) (k59 : ex_at w' 59 = some (.inr (.inr (8, g5)))) (k5 : ex_at g5 5 = some (.ref 63)) (k6 : ex_at g5 6 = some (.int 0)) (e33 : ex_at w' 33 = ex_at w 33) (e63 : ex_at w' 63 = ex_at w 63) : yrR w' := by
  obtain ⟨gs, gs5, n, l, l', a1, a2, a3, a4, a5, a6, a7, a8, a9, a10, a11, a12⟩ := h
  obtain rfl := at_obj h0 a1
  exact ⟨_, g5, 0, l, l', k0, vg_at_o rfl (vg_at_o rfl (vg_at_o rfl (vg_at_o rfl f8))), by rw [nI_0]; exact vg_at_put (vg_at_o rfl (vg_at_o rfl (vg_at_o rfl a3))), k59, k5, by rw [nI_0]; exact k6, e33.trans a7, e63.trans a8, Nat.zero_le _, a10, a11, fun i hi => absurd hi (Nat.not_lt_zero i)⟩
end FD
def bv_I (w : ex_W) : Prop := pr_I iv_s w ∧ tpR w ∧ yrR w ∧ sh_A w ∧ fd w 0 13 = fd w 59 33 ∧ ∃ t, bR w t
/-- end -/
theorem en_both {w : ex_W} {x : Int32} {gs : List Value} (h0 : ex_at w 0 = some (.inr (.inr (7, gs)))) (g0 : ex_at gs 0 = some (.ref 15)) (h : tpR w) : ∃ r wx wm, Go [] 39 mt_5 (ex_ent mt_5 [.ref 0, .int x]) w (some (.int r), wx) ∧ Go [] 39 mt_6 (ex_ent mt_6 [.ref 59, .int x]) wx (some (.int r), wm) ∧ tpR wm := by
  obtain ⟨n, B, T, fs, fs5, a1, a2, a3, a4, a5, a6, a7, a8, a9, a10⟩ := id h
  have en : (nI n).toInt = (n : Int) := nI_toInt (by omega)
  by_cases c1 : x.toInt < 0
  · exact ⟨_, w, w, ve_c1 h0 g0 a1 a2 (kq_lt_t c1), ve_m1 (d := 38) a4 a5 (vin_f (by rw [e64_0, Int32.toInt_toInt64]; omega)) (by decide), h⟩
  · by_cases c2 : x.toInt ≤ (nI n).toInt
    · have ex : x = nI x.toInt.toNat := tI_nI (by omega) (by omega)
      refine ⟨_, _, _, ve_c3 h0 g0 a1 a2 (kq_lt_f (by omega)) (kp_le_t c2), ve_m2 (d := 38) (vg_at_o rfl a4) a5 (vin_t (by rw [e64_0, Int32.toInt_toInt64]; omega) (by rw [Int32.toInt_toInt64, Int32.toInt_toInt64]; omega)) (by decide), x.toInt.toNat, B, T, _, _, vg_at_o rfl (vg_at_put a1), by rw [← ex]; exact vg_at_put a2, vg_at_o rfl (vg_at_o rfl a3), vg_at_put (vg_at_o rfl a4), by rw [← ex]; exact vg_at_put a5, vg_at_o rfl (vg_at_o rfl a6), by omega, a8, a9, fun i hi => a10 i (by omega)⟩
    · exact ⟨_, w, w, ve_c2 h0 g0 a1 a2 (kq_lt_f (by omega)) (kp_le_f (by omega)), ve_m1 (d := 38) a4 a5 (vin_f (by rw [e64_0, Int32.toInt_toInt64, Int32.toInt_toInt64]; omega)) (by decide), h⟩

section C0
variable {ρ ρ' : List Int} {w w' : ex_W}
theorem pa0_0 (H : ai_g ρ w iv_0 [] [] w) : ∃ gs, ex_at w 0 = some (.inr (.inr (7, gs))) ∧ ex_at gs 0 = some (.ref 15) ∧ ex_at gs 5 = some (.ref 35) ∧ ex_at gs 6 = some (.ref 34) ∧ ex_at gs 8 = some (.ref 33) ∧ ex_at gs 9 = some (.ref 1) ∧ ∃ v, ex_at gs 11 = some (.int v) := by
  obtain ⟨gs, h0, G⟩ := fp_o (U := iv_0.2.2.2) (p := 0) (c := 7) H.2.2.2 rfl
  obtain ⟨v, hv, -⟩ := gI G (k := 11) rfl
  exact ⟨gs, h0, gR G (k := 0) rfl, gR G (k := 5) rfl, gR G (k := 6) rfl, gR G (k := 8) rfl, gR G (k := 9) rfl, v, hv⟩
theorem pa59_0 (H : ai_g ρ w iv_0 [] [] w) : ∃ fs5, ex_at w 59 = some (.inr (.inr (8, fs5))) ∧ ex_at fs5 0 = some (.ref 60) ∧ ex_at fs5 1 = some (.ref 61) ∧ ex_at fs5 4 = some (.ref 62) ∧ ex_at fs5 5 = some (.ref 63) ∧ (∃ v, ex_at fs5 2 = some (.int v)) ∧ (∃ v, ex_at fs5 3 = some (.int v)) ∧ (∃ v, ex_at fs5 6 = some (.int v)) ∧ ∃ v, ex_at fs5 15 = some (.int v) := by
  obtain ⟨gs, h0, G⟩ := fp_o (U := iv_0.2.2.2) (p := 59) (c := 8) H.2.2.2 rfl
  obtain ⟨v2, e2, -⟩ := gI G (k := 2) rfl
  obtain ⟨v3, e3, -⟩ := gI G (k := 3) rfl
  obtain ⟨v6, e6, -⟩ := gI G (k := 6) rfl
  obtain ⟨v15, e15, -⟩ := gI G (k := 15) rfl
  exact ⟨gs, h0, gR G (k := 0) rfl, gR G (k := 1) rfl, gR G (k := 4) rfl, gR G (k := 5) rfl, ⟨v2, e2⟩, ⟨v3, e3⟩, ⟨v6, e6⟩, v15, e15⟩
theorem paT_0 (H : ai_g ρ w iv_0 [] [] w) : ∃ tf ta, tA w 1 tf ta ∧ tL ta ∧ (4 ≤ (tf 0).toInt ∧ (tf 0).toInt ≤ 16) ∧ (1 ≤ (tf 1).toInt ∧ (tf 1).toInt ≤ 4) := tA_of (p := 1) (U := iv_0.2.2.2) H.2.2.2 rfl rfl rfl rfl rfl rfl rfl rfl rfl rfl rfl rfl rfl
theorem paI_0 (H : ai_g ρ w iv_0 [] [] w) : ∃ tf ta, tA w 36 tf ta ∧ tL ta := by
  obtain ⟨tf, ta, h1, h2, -⟩ := tA_of (p := 36) (U := iv_0.2.2.2) H.2.2.2 rfl rfl rfl rfl rfl rfl rfl rfl rfl rfl rfl rfl rfl
  exact ⟨tf, ta, h1, h2⟩
theorem paJ_0 (H : ai_g ρ w iv_0 [] [] w) : ∃ tf ta, tA w 43 tf ta ∧ tL ta := by
  obtain ⟨tf, ta, h1, h2, -⟩ := tA_of (p := 43) (U := iv_0.2.2.2) H.2.2.2 rfl rfl rfl rfl rfl rfl rfl rfl rfl rfl rfl rfl rfl
  exact ⟨tf, ta, h1, h2⟩
theorem pa35_0 (H : ai_g ρ w iv_0 [] [] w) : ex_at w 35 = some (.inr (.inl (6, [some 36, some 43]))) := by
  obtain ⟨x, h1, -, h3⟩ := H.2.2.2.2.2 35 (false, some (.inr (.inl (6, [some 36, some 43])))) rfl
  have hx := (h3 _ rfl).row
  rw [hx] at h1
  rw [ex_at_eq]
  exact h1
theorem pa61_0 (H : ai_g ρ w iv_0 [] [] w) : ∃ KM, ex_at w 61 = some (.inl (.boolean, KM)) ∧ KM.length = 2 ∧ ∀ k, k < 2 → (KM.getD k 0).toInt = 0 ∨ (KM.getD k 0).toInt = 1 := by
  obtain ⟨l, h1, h2⟩ := fp_r (U := iv_0.2.2.2) (p := 61) (ty := .boolean) H.2.2.2 rfl
  refine ⟨l, h1, h2.len, fun k hk => ?_⟩
  obtain ⟨h3, h4, h5, -⟩ := fp_rd h2 hk
  have h4 : (0 : Int) ≤ (l.getD k 0).toInt := h4
  have h5 : (l.getD k 0).toInt ≤ (1 : Int) := h5
  omega
theorem up_t0 (H' : ai_g ρ' w' iv_0 [] [] w') (h : tpR w) (e : fd w' 59 15 = fd w 59 15) (e15 : ex_at w' 15 = ex_at w 15) (e16 : ex_at w' 16 = ex_at w 16) (e66 : ex_at w' 66 = ex_at w 66) : tpR w' := by
  obtain ⟨fs5, h59, -, -, -, -, -, -, -, v, hv⟩ := pa59_0 H'
  exact h.sm h59 hv e e15 e16 e66
theorem up_y0 (H' : ai_g ρ' w' iv_0 [] [] w') (h : yrR w) (e11 : fd w' 0 11 = fd w 0 11) (e6 : fd w' 59 6 = fd w 59 6) (e33 : ex_at w' 33 = ex_at w 33) (e63 : ex_at w' 63 = ex_at w 63) : yrR w' := by
  obtain ⟨fs5, h59, -, -, -, f5, -, -, ⟨v6, e6'⟩, -⟩ := pa59_0 H'
  obtain ⟨gs, h0, -, -, -, g8, -, v, hv⟩ := pa0_0 H'
  exact h.sm h0 g8 hv h59 f5 e6' e11 e6 e33 e63
theorem mtt_0 {t : Nat} (H : ai_g ρ w iv_0 [] [] w) (h : bR w t) : t = 1 := by
  obtain ⟨gs, h0, -, -, -, -, g9, -⟩ := pa0_0 H
  obtain ⟨tf, ta, ST, WE, dn, an, wn, ⟨-, -, ⟨gs', k0, k9⟩, -⟩, -⟩ := h
  obtain rfl := at_obj h0 k0
  cases (show some (Value.ref t) = some (.ref 1) from k9.symm.trans g9)
  rfl
theorem up_b0 (H' : ai_g ρ' w' iv_0 [] [] w') {t : Nat} (H : ai_g ρ w iv_0 [] [] w) (h : bR w t) (e2 : fd w' 59 2 = fd w 59 2) (e3 : fd w' 59 3 = fd w 59 3) (F : ∀ q ∈ bf_0, ex_at w' q = ex_at w q) : ∃ t, bR w' t := by
  obtain rfl := mtt_0 H h
  obtain ⟨gs, h0, -, -, -, -, g9, -⟩ := pa0_0 H'
  obtain ⟨fs5, h59, f0, -, f4, -, f2, f3, -⟩ := pa59_0 H'
  refine ⟨1, bR_same h h0 g9 h59 f0 f4 f2 f3 e2 e3 (fun q hq => F q ?_)⟩
  have hq : q ∈ bf_0 ↔ (1 ≤ q ∧ q ≤ 1 + 6 ∨ 34 ≤ q ∧ q ≤ 49 ∨ q = 60 ∨ q = 61 ∨ q = 62) := by
    unfold bf_0
    simp only [List.mem_cons, List.not_mem_nil, or_false]
    omega
  exact hq.mpr (by assumption)
theorem paD_0 (H : ai_g ρ w iv_0 [] [] w) : dyC w := by
  obtain ⟨fs, h17, G⟩ := fp_o (U := iv_0.2.2.2) (p := 17) (c := 0) H.2.2.2 rfl
  obtain ⟨vv, f3, -⟩ := fp_f G (k := 3) rfl
  obtain ⟨mm, f4, -⟩ := gI G (k := 4) rfl
  obtain ⟨l18, g18, n18⟩ := gA (U := iv_0.2.2.2) (p := 18) (m := 128) (ty := .int) H.2.2.2 rfl rfl
  obtain ⟨l19, g19, n19⟩ := gA (U := iv_0.2.2.2) (p := 19) (m := 128) (ty := .int) H.2.2.2 rfl rfl
  obtain ⟨l20, g20, n20⟩ := gA (U := iv_0.2.2.2) (p := 20) (m := 17) (ty := .int) H.2.2.2 rfl rfl
  obtain ⟨l67, g67, n67⟩ := gA (U := iv_0.2.2.2) (p := 67) (m := 130) (ty := .int) H.2.2.2 rfl rfl
  refine ⟨⟨fs, vv, mm, l18, l19, l20, h17, gL G rfl, gR G (k := 0) rfl, gR G (k := 1) rfl, gR G (k := 2) rfl, f3, f4, g18, g19, g20, n18, n19, n20⟩, fun gs e => ?_, fun fs5 e => ?_, ⟨l67, g67, n67⟩, fun ST e => ?_⟩
  · obtain ⟨gs', h0, G0⟩ := fp_o (U := iv_0.2.2.2) (p := 0) (c := 7) H.2.2.2 rfl
    obtain rfl := at_obj h0 e
    exact gR G0 (k := 1) rfl
  · obtain ⟨gs', h0, G0⟩ := fp_o (U := iv_0.2.2.2) (p := 59) (c := 8) H.2.2.2 rfl
    obtain rfl := at_obj h0 e
    obtain ⟨m23, e23, -⟩ := gI G0 (k := 23) rfl
    exact ⟨gR G0 (k := 22) rfl, m23, e23⟩
  · obtain ⟨l, h1, h2⟩ := fp_r (U := iv_0.2.2.2) (p := 60) (ty := .int) H.2.2.2 rfl
    obtain rfl := at_arr h1 e
    have k78 := gs_get [(1, (.ofNat 0, .ofNat 60, [])), (60, (.ofNat 0, .ofNat 16, [])), (17, (.negSucc 3, .ofNat 3, []))] l 78 h2 (by decide) (by decide)
    refine ⟨⟨k78.1, k78.2.1⟩, fun i hi => ?_⟩
    have k1 := gs_get [(1, (.ofNat 0, .ofNat 60, []))] l (1 + i) h2 (by show 1 + 0 ≤ 1 + i; omega) (by show 1 + i < 1 + 0 + 60; omega)
    exact ⟨k1.1, k1.2.1⟩
theorem paC_0 (H : ai_g ρ w iv_0 [] [] w) : sh_C w := sh_C_of (I := iv_0) rfl rfl rfl rfl rfl rfl rfl H
theorem pa13_0 (H : ai_g ρ w iv_0 [] [] w) : (∀ gs, ex_at w 0 = some (.inr (.inr (7, gs))) → ∃ m, ex_at gs 13 = some (.int m)) ∧ (∀ fs5, ex_at w 59 = some (.inr (.inr (8, fs5))) → ∃ m, ex_at fs5 33 = some (.int m)) := by
  refine ⟨fun gs e => ?_, fun fs5 e => ?_⟩
  · obtain ⟨gs', h0, G0⟩ := fp_o (U := iv_0.2.2.2) (p := 0) (c := 7) H.2.2.2 rfl
    obtain rfl := at_obj h0 e
    obtain ⟨m, em, -⟩ := gI G0 (k := 13) rfl
    exact ⟨m, em⟩
  · obtain ⟨gs', h0, G0⟩ := fp_o (U := iv_0.2.2.2) (p := 59) (c := 8) H.2.2.2 rfl
    obtain rfl := at_obj h0 e
    obtain ⟨m, em, -⟩ := gI G0 (k := 33) rfl
    exact ⟨m, em⟩
/-- steps by hand -/
theorem h0_0 {vl : Int64} (H : ai_g ρ w iv_0 [] [] w) (h : tpR w) : ∃ r wx wm, Go [] 39 mt_3 (ex_ent mt_3 [.ref 0, .long vl]) w (some (.int r), wx) ∧ Go [] 39 mt_4 (ex_ent mt_4 [.ref 59, .long vl]) wx (some (.int r), wm) ∧ tpR wm := by
  have W := H.2.2.2
  obtain ⟨fs0, h0, G0⟩ := fp_o (U := iv_0.2.2.2) (p := 0) (c := 7) W rfl
  obtain ⟨fs9, h15, G15⟩ := fp_o (U := iv_0.2.2.2) (p := 15) (c := 5) W rfl
  obtain ⟨fs5, h59, G59⟩ := fp_o (U := iv_0.2.2.2) (p := 59) (c := 8) W rfl
  obtain ⟨r, wx, wm, g1, g2, g3⟩ := fe_both (X := []) (d := 38) (vl := vl) h0 (gR G0 (k := 0) rfl) (fun fs e => by cases (show some (Sum.inr (Sum.inr (5, fs))) = some (.inr (.inr (5, fs9))) from e.symm.trans h15); exact gR G15 (k := 0) rfl) (fun fs e => by cases (show some (Sum.inr (Sum.inr (8, fs))) = some (.inr (.inr (8, fs5))) from e.symm.trans h59); exact gR G59 (k := 14) rfl) h
  exact ⟨r, wx, wm, g1, g2.up, g3⟩
theorem h1_0 {x : Int32} (H : ai_g ρ w iv_0 [] [] w) (h : tpR w) : ∃ r wx wm, Go [] 39 mt_5 (ex_ent mt_5 [.ref 0, .int x]) w (some (.int r), wx) ∧ Go [] 39 mt_6 (ex_ent mt_6 [.ref 59, .int x]) wx (some (.int r), wm) ∧ tpR wm := by
  obtain ⟨gs, h0, g0, -⟩ := pa0_0 H
  exact en_both h0 g0 h
theorem h4_0 {x : Int32} {t : Nat} (H : ai_g ρ w iv_0 [] [] w) (hB : bR w t) : ∃ r, Go [] 39 mt_11 (ex_ent mt_11 [.ref 0, .int x]) w (some (.int r), w) ∧ Go [] 39 mt_12 (ex_ent mt_12 [.ref 59, .int x]) w (some (.int r), w) := by
  obtain ⟨tf, ta, ST, WE, dn, an, wn, h, -⟩ := hB
  exact st_rule (d := 39) h
theorem h5_0 {x : Int32} {t : Nat} (H : ai_g ρ w iv_0 [] [] w) (hB : bR w t) : ∃ r, Go [] 39 mt_13 (ex_ent mt_13 [.ref 0, .int x]) w (some (.int r), w) ∧ Go [] 39 mt_14 (ex_ent mt_14 [.ref 59, .int x]) w (some (.int r), w) := by
  obtain ⟨tf, ta, ST, WE, dn, an, wn, h, -⟩ := hB
  exact st_day (d := 38) h
theorem h6_0 {x : Int32} {t : Nat} (H : ai_g ρ w iv_0 [] [] w) (hB : bR w t) : ∃ r, Go [] 39 mt_15 (ex_ent mt_15 [.ref 0, .int x]) w (some (.int r), w) ∧ Go [] 39 mt_16 (ex_ent mt_16 [.ref 59, .int x]) w (some (.int r), w) := by
  obtain ⟨tf, ta, ST, WE, dn, an, wn, h, -⟩ := hB
  exact st_weight (d := 37) h
theorem h7_0 {x : Int32} {t : Nat} (H : ai_g ρ w iv_0 [] [] w) (hB : bR w t) : ∃ r, Go [] 39 mt_17 (ex_ent mt_17 [.ref 0, .int x]) w (some (.int r), w) ∧ Go [] 39 mt_18 (ex_ent mt_18 [.ref 59, .int x]) w (some (.int r), w) := by
  obtain ⟨tf, ta, ST, WE, dn, an, wn, h, -⟩ := hB
  exact st_page (d := 37) h
theorem h8_0 {x : Int32} {t : Nat} (hB : bR w t) : ∃ r wx wm, Go [] 39 mt_19 (ex_ent mt_19 [.ref 0, .int x]) w (some (.int r), wx) ∧ Go [] 39 mt_20 (ex_ent mt_20 [.ref 59, .int x]) wx (some (.int r), wm) ∧ ∃ t, bR wm t := by
  obtain ⟨tf, ta, ST, WE, dn, an, wn, h, hi⟩ := hB
  obtain ⟨r, wx, wm, g1, g2, g3⟩ := bR_res h hi (st_gap (X := []) (d := 38) (x := x) h)
  exact ⟨r, wx, wm, g1, g2, t, g3⟩
theorem h9_0 {x : Int32} {t : Nat} (hB : bR w t) : ∃ r wx wm, Go [] 39 mt_21 (ex_ent mt_21 [.ref 0, .int x]) w (some (.int r), wx) ∧ Go [] 39 mt_22 (ex_ent mt_22 [.ref 59, .int x]) wx (some (.int r), wm) ∧ ∃ t, bR wm t := by
  obtain ⟨tf, ta, ST, WE, dn, an, wn, h, hi⟩ := hB
  obtain ⟨r, wx, wm, g1, g2, g3⟩ := bR_res h hi (st_near (X := []) (d := 38) (x := x) h)
  exact ⟨r, wx, wm, g1, g2, t, g3⟩
theorem h10_0 {x : Int32} {t : Nat} (hB : bR w t) : ∃ r wx wm, Go [] 39 mt_23 (ex_ent mt_23 [.ref 0, .int x]) w (some (.int r), wx) ∧ Go [] 39 mt_24 (ex_ent mt_24 [.ref 59, .int x]) wx (some (.int r), wm) ∧ ∃ t, bR wm t := by
  obtain ⟨tf, ta, ST, WE, dn, an, wn, h, hi⟩ := hB
  obtain ⟨r, wx, wm, g1, g2, g3⟩ := bR_res h hi (st_book (X := []) (d := 38) (x := x) h)
  exact ⟨r, wx, wm, g1, g2, t, g3⟩
theorem h11_0 {x : Int32} {y : Int32} {t : Nat} (hB : bR w t) : ∃ r wx wm, Go [] 39 mt_25 (ex_ent mt_25 [.ref 0, .int x, .int y]) w (some (.int r), wx) ∧ Go [] 39 mt_26 (ex_ent mt_26 [.ref 59, .int x, .int y]) wx (some (.int r), wm) ∧ ∃ t, bR wm t := by
  obtain ⟨tf, ta, ST, WE, dn, an, wn, h, hi⟩ := hB
  obtain ⟨r, wx, wm, g1, g2, g3⟩ := bR_res h hi (st_write (X := []) (d := 37) (x := x) (y := y) h)
  exact ⟨r, wx, wm, g1, g2, t, g3⟩
theorem h12_0 {x : Int32} {t : Nat} (hB : bR w t) : ∃ r wx wm, Go [] 39 mt_27 (ex_ent mt_27 [.ref 0, .int x]) w (some (.int r), wx) ∧ Go [] 39 mt_28 (ex_ent mt_28 [.ref 59, .int x]) wx (some (.int r), wm) ∧ ∃ t, bR wm t := by
  obtain ⟨tf, ta, ST, WE, dn, an, wn, h, hi⟩ := hB
  obtain ⟨r, wx, wm, g1, g2, g3⟩ := bR_res h hi (st_undo (X := []) (d := 38) (x := x) h)
  exact ⟨r, wx, wm, g1, g2, t, g3⟩
theorem h21_0 {x : Int32} {t : Nat} (hB : bR w t) : ∃ r wx wm, Go [] 39 mt_45 (ex_ent mt_45 [.ref 0, .int x]) w (some (.int r), wx) ∧ Go [] 39 mt_46 (ex_ent mt_46 [.ref 59, .int x]) wx (some (.int r), wm) ∧ ∃ t, bR wm t := by
  obtain ⟨tf, ta, ST, WE, dn, an, wn, h, hi⟩ := hB
  obtain ⟨r, wx, wm, g1, g2, g3⟩ := bR_res h hi (st_ask (X := []) (d := 37) (x := x) h)
  exact ⟨r, wx, wm, g1, g2, t, g3⟩
theorem h22_0 {x : Int32} {t : Nat} (hB : bR w t) : ∃ r wx wm, Go [] 39 mt_47 (ex_ent mt_47 [.ref 0, .int x]) w (some (.int r), wx) ∧ Go [] 39 mt_48 (ex_ent mt_48 [.ref 59, .int x]) wx (some (.int r), wm) ∧ ∃ t, bR wm t := by
  obtain ⟨tf, ta, ST, WE, dn, an, wn, h, hi⟩ := hB
  obtain ⟨r, wx, wm, g1, g2, g3⟩ := bR_res h hi (st_drop (X := []) (d := 38) (x := x) h)
  exact ⟨r, wx, wm, g1, g2, t, g3⟩
theorem h29_0 {x : Int32} {y : Int32} {t : Nat} (hB : bR w t) : ∃ r wx wm, Go [] 39 mt_61 (ex_ent mt_61 [.ref 0, .int x, .int y]) w (some (.int r), wx) ∧ Go [] 39 mt_62 (ex_ent mt_62 [.ref 59, .int x, .int y]) wx (some (.int r), wm) ∧ ∃ t, bR wm t := by
  obtain ⟨tf, ta, ST, WE, dn, an, wn, h, hi⟩ := hB
  obtain ⟨r, wx, wm, g1, g2, g3⟩ := bR_res h hi (st_stay (X := []) (d := 37) (x := x) (y := y) h)
  exact ⟨r, wx, wm, g1, g2, t, g3⟩
theorem h30_0  {t : Nat} (hB : bR w t) : ∃ r wx wm, Go [] 39 mt_63 (ex_ent mt_63 [.ref 0]) w (some (.int r), wx) ∧ Go [] 39 mt_64 (ex_ent mt_64 [.ref 59]) wx (some (.int r), wm) ∧ ∃ t, bR wm t := by
  obtain ⟨tf, ta, ST, WE, dn, an, wn, h, hi⟩ := hB
  obtain ⟨r, wx, wm, g1, g2, g3⟩ := bR_res h hi (st_serve (X := []) (d := 39) h)
  exact ⟨r, wx, wm, g1, g2, t, g3⟩
theorem h16_0 {x : Int32} {t : Nat} (H : ai_g ρ w iv_0 [] [] w) (hB : bR w t) : ∃ r r' wx wm, Go [] 39 mt_35 (ex_ent mt_35 [.ref 0, .int x]) w (some (.int r), wx) ∧ Go [] 39 mt_36 (ex_ent mt_36 [.ref 59, .int x]) wx (some (.int r'), wm) ∧ ∃ t, bR wm t := by
  obtain ⟨tf, ta, ST, WE, dn, an, wn, h, hi⟩ := hB
  have ht := h.2.1
  obtain ⟨r, r', wx, wm, tf', ta', ST', dn', g1, g2, hs, ⟨e0, e1, -⟩, eS, -, F⟩ := st_ring (X := []) (d := 37) (x := x) h (paD_0 H)
  exact ⟨r, r', wx, wm, g1, g2, t, bR_step hi h.2.2.2.2.2.2.1 hs e0 e1 eS (fun q hq => F q (by omega) (by omega) (by omega) (by omega) (by omega))⟩
theorem h18_0 {x : Int32} {t : Nat} (H : ai_g ρ w iv_0 [] [] w) (hY : yrR w) (hB : bR w t) : ∃ r wx wm, Go [] 39 mt_39 (ex_ent mt_39 [.ref 0, .int x]) w (some (.int r), wx) ∧ Go [] 39 mt_40 (ex_ent mt_40 [.ref 59, .int x]) wx (some (.int r), wm) ∧ yrR wm := by
  obtain ⟨tf, ta, ST, WE, dn, an, wn, ⟨t0, t6, ⟨gs, h0, g9⟩, hT, ⟨fs5, h59, -, f2, -⟩, -, -, hR⟩, -⟩ := hB
  exact yr_tell (d := 37) t0 t6 h0 g9 hT.1 hR.2.1.2.2.2.2.2.2.2.2.2.2.2.2.2.2.2.1 h59 f2 hY
theorem h19_0 {x : Int32} (hY : yrR w) : ∃ r wx wm, Go [] 39 mt_41 (ex_ent mt_41 [.ref 0, .int x]) w (some (.int r), wx) ∧ Go [] 39 mt_42 (ex_ent mt_42 [.ref 59, .int x]) wx (some (.int r), wm) ∧ yrR wm := yr_cut (d := 38) hY
theorem h33_0 {x : Int32} {t : Nat} (H : ai_g ρ w iv_0 [] [] w) (hB : bR w t) : ∃ r wx wm, Go [] 39 mt_69 (ex_ent mt_69 [.ref 0, .int x]) w (some (.int r), wx) ∧ Go [] 39 mt_70 (ex_ent mt_70 [.ref 59, .int x]) wx (some (.int r), wm) ∧ ∃ t, bR wm t := by
  obtain rfl := mtt_0 H hB
  obtain ⟨tf, ta, ST, WE, dn, an, wn, h, hi⟩ := hB
  obtain ⟨gs, h0, -, g5, g6, -, g9, -⟩ := pa0_0 H
  obtain ⟨fs5, h59, f0, f1, -⟩ := pa59_0 H
  obtain ⟨tf0, ta0, hI0, lI0⟩ := paI_0 H
  obtain ⟨tf1, ta1, hI1, lI1⟩ := paJ_0 H
  obtain ⟨r, wx, wm, g1, g2, g3⟩ := bk_keep (x := x) (by decide) h hi h0 g5 g6 g9 (pa35_0 H) hI0 lI0 hI1 lI1 h59 f0 f1 (fun KM e => by
    obtain ⟨KM', k1, -, k3⟩ := pa61_0 H
    obtain rfl := at_arr k1 e
    exact k3)
  exact ⟨r, wx, wm, g1, g2, 1, g3⟩
theorem h34_0 {x : Int32} {t : Nat} (H : ai_g ρ w iv_0 [] [] w) (hB : bR w t) : ∃ r wx wm, Go [] 39 mt_71 (ex_ent mt_71 [.ref 0, .int x]) w (some (.int r), wx) ∧ Go [] 39 mt_72 (ex_ent mt_72 [.ref 59, .int x]) wx (some (.int r), wm) ∧ ∃ t, bR wm t := by
  obtain rfl := mtt_0 H hB
  obtain ⟨tf, ta, ST, WE, dn, an, wn, h, hi⟩ := hB
  obtain ⟨gs, h0, -, g5, g6, -, g9, -⟩ := pa0_0 H
  obtain ⟨fs5, h59, f0, f1, -⟩ := pa59_0 H
  obtain ⟨tf0, ta0, hI0, lI0⟩ := paI_0 H
  obtain ⟨tf1, ta1, hI1, lI1⟩ := paJ_0 H
  obtain ⟨r, wx, wm, g1, g2, g3⟩ := bk_back (x := x) (by decide) h hi h0 g5 g6 g9 (pa35_0 H) hI0 lI0 hI1 lI1 h59 f0 f1
  exact ⟨r, wx, wm, g1, g2, 1, g3⟩
theorem h37_0 {x1 x2 x3 x4 : Int32} {t : Nat} (H : ai_g ρ w iv_0 [] [] w) (hB : bR w t) (hA : sh_A w) (hO : fd w 0 13 = fd w 59 33) : ∃ r wx wm, Go [] 39 mt_77 (ex_ent mt_77 [.ref 0, .int x1, .int x2, .int x3, .int x4]) w (some (.int r), wx) ∧ Go [] 39 mt_78 (ex_ent mt_78 [.ref 59, .int x1, .int x2, .int x3, .int x4]) wx (some (.int r), wm) ∧ fd wm 0 13 = fd wm 59 33 ∧ ∃ t, bR wm t := by
  obtain ⟨tf, ta, ST, WE, dn, an, wn, h, hi⟩ := hB
  have ht := h.2.1
  obtain ⟨r, wx, wm, tf', ta', ST', dn', g1, g2, hs, ⟨e0, e1, -⟩, eS, hto, F⟩ := st_read (k := x1) (y := x2) (g := x3) (c := x4) h (paD_0 H) hA (paC_0 H) (pa13_0 H).1 (pa13_0 H).2
  refine ⟨r, wx, wm, g1, g2, ?_, t, bR_step hi h.2.2.2.2.2.2.1 hs e0 e1 eS (fun q hq => F q (by omega) (by omega) (by omega) (by omega) (by omega) (by omega))⟩
  rcases hto with ⟨u, v⟩ | u
  · rw [u, v]
    exact hO
  · exact u
theorem h38_0 (H : ai_g ρ w iv_0 [] [] w) (hO : fd w 0 13 = fd w 59 33) : ∃ r, Go [] 39 mt_79 (ex_ent mt_79 [.ref 0]) w (some (.int r), w) ∧ Go [] 39 mt_80 (ex_ent mt_80 [.ref 59]) w (some (.int r), w) := by
  obtain ⟨gs, h0, -⟩ := pa0_0 H
  obtain ⟨fs5, h59, -⟩ := pa59_0 H
  obtain ⟨m, e13⟩ := (pa13_0 H).1 gs h0
  obtain ⟨m', e33⟩ := (pa13_0 H).2 fs5 h59
  obtain rfl : m = m' := fd_int h0 e13 (hO.trans (fd_obj h59 e33))
  exact ⟨m, tn_c h0 e13, tn_m h59 e33⟩
end C0

theorem tx_st0 {ρ : List Int} {w : ex_W} (H : ai_g ρ w iv_0 [] [] w) (h : tpR w) (hY : yrR w) (hM : bR w 1) : ∃ r wx wm, Go [] 39 mt_7 (ex_ent mt_7 [.ref 0]) w (some (.int r), wx) ∧ Go [] 39 mt_8 (ex_ent mt_8 [.ref 59]) wx (some (.int r), wm) ∧ tpR wm ∧ yrR wm ∧ ∃ t, bR wm t := by
  obtain ⟨n, B, T, fs, fs5, a1, a2, a3, a4, a5, a6, a7, a8, a9, a10⟩ := h
  have W := H.2.2.2
  obtain ⟨fsA, hA, GA⟩ := fp_o (U := iv_0.2.2.2) (p := 0) (c := 7) W rfl
  obtain ⟨fsB, hB, GB⟩ := fp_o (U := iv_0.2.2.2) (p := 15) (c := 5) W rfl
  obtain ⟨fsD, hD, GD⟩ := fp_o (U := iv_0.2.2.2) (p := 8) (c := 6) W rfl
  obtain ⟨fsM, hM_, GM⟩ := fp_o (U := iv_0.2.2.2) (p := 59) (c := 8) W rfl
  obtain rfl : fsB = fs := by
    cases (show some (Sum.inr (Sum.inr (5, fsB))) = some (.inr (.inr (5, fs))) from hB.symm.trans a1)
    rfl
  obtain rfl : fsM = fs5 := by
    cases (show some (Sum.inr (Sum.inr (8, fsM))) = some (.inr (.inr (8, fs5))) from hM_.symm.trans a4)
    rfl
  obtain ⟨z11, e11, -⟩ := gI GA (k := 11) rfl
  obtain ⟨z12, e12, -⟩ := gI GA (k := 12) rfl
  obtain ⟨b2, eb2, -⟩ := gI GB (k := 2) rfl
  obtain ⟨b3, eb3, -⟩ := gI GB (k := 3) rfl
  obtain ⟨b5, eb5, -⟩ := gI GB (k := 5) rfl
  obtain ⟨b6, eb6, -⟩ := gI GB (k := 6) rfl
  obtain ⟨b7, eb7, -⟩ := gI GB (k := 7) rfl
  obtain ⟨b8, eb8, -⟩ := gI GB (k := 8) rfl
  obtain ⟨b9, eb9, -⟩ := gI GB (k := 9) rfl
  obtain ⟨vv, eb4, -⟩ := fp_f GB (k := 4) rfl
  obtain ⟨d6, ed6, -⟩ := gI GD (k := 6) rfl
  obtain ⟨d7, ed7, -⟩ := gI GD (k := 7) rfl
  obtain ⟨d8, ed8, -⟩ := gI GD (k := 8) rfl
  obtain ⟨d9, ed9, -⟩ := gI GD (k := 9) rfl
  obtain ⟨d10, ed10, -⟩ := gI GD (k := 10) rfl
  obtain ⟨d11, ed11, -⟩ := gI GD (k := 11) rfl
  obtain ⟨d12, ed12, -⟩ := gI GD (k := 12) rfl
  obtain ⟨d13, ed13, -⟩ := gI GD (k := 13) rfl
  obtain ⟨m2, em2, -⟩ := gI GM (k := 2) rfl
  obtain ⟨m3, em3, -⟩ := gI GM (k := 3) rfl
  obtain ⟨m6, em6, -⟩ := gI GM (k := 6) rfl
  obtain ⟨m8, em8, -⟩ := gI GM (k := 8) rfl
  obtain ⟨m9, em9, -⟩ := gI GM (k := 9) rfl
  obtain ⟨m11, em11, -⟩ := gI GM (k := 11) rfl
  obtain ⟨m12, em12, -⟩ := gI GM (k := 12) rfl
  obtain ⟨m13, em13, -⟩ := gI GM (k := 13) rfl
  obtain ⟨m16, em16, -⟩ := gI GM (k := 16) rfl
  obtain ⟨m17, em17, -⟩ := gI GM (k := 17) rfl
  obtain ⟨m18, em18, -⟩ := gI GM (k := 18) rfl
  obtain ⟨m19, em19, -⟩ := gI GM (k := 19) rfl
  obtain ⟨m20, em20, -⟩ := gI GM (k := 20) rfl
  obtain ⟨m21, em21, -⟩ := gI GM (k := 21) rfl
  obtain ⟨m23, em23, -⟩ := gI GM (k := 23) rfl
  obtain ⟨m26, em26, -⟩ := gI GM (k := 26) rfl
  obtain ⟨m33, em33, -⟩ := gI GM (k := 33) rfl
  obtain ⟨l9, g9, n9⟩ := gA (U := iv_0.2.2.2) (p := 9) (m := 4) (ty := .int) W rfl rfl
  obtain ⟨l10, g10, n10⟩ := gA (U := iv_0.2.2.2) (p := 10) (m := 17) (ty := .int) W rfl rfl
  obtain ⟨l11, g11, n11⟩ := gA (U := iv_0.2.2.2) (p := 11) (m := 60) (ty := .int) W rfl rfl
  obtain ⟨l12, g12, n12⟩ := gA (U := iv_0.2.2.2) (p := 12) (m := 5) (ty := .int) W rfl rfl
  obtain ⟨l13, g13, n13⟩ := gA (U := iv_0.2.2.2) (p := 13) (m := 4) (ty := .int) W rfl rfl
  obtain ⟨l14, g14, n14⟩ := gA (U := iv_0.2.2.2) (p := 14) (m := 4) (ty := .int) W rfl rfl
  obtain ⟨l34, g34, n34⟩ := gA (U := iv_0.2.2.2) (p := 34) (m := 2) (ty := .boolean) W rfl rfl
  obtain ⟨l60, g60, n60⟩ := gA (U := iv_0.2.2.2) (p := 60) (m := 288) (ty := .int) W rfl rfl
  obtain ⟨l61, g61, n61⟩ := gA (U := iv_0.2.2.2) (p := 61) (m := 2) (ty := .boolean) W rfl rfl
  obtain ⟨l62, g62, n62⟩ := gA (U := iv_0.2.2.2) (p := 62) (m := 4) (ty := .int) W rfl rfl
  obtain ⟨l64, g64, n64⟩ := gA (U := iv_0.2.2.2) (p := 64) (m := 96) (ty := .int) W rfl rfl
  obtain ⟨l65, g65, n65⟩ := gA (U := iv_0.2.2.2) (p := 65) (m := 4) (ty := .int) W rfl rfl
  have hput : ex_put fsB 4 (.ref 8) = tr 8 (nI n) b2 b3 b5 b6 b7 b8 b9 := ex_ext (m := 10) (by rw [ex_put_eq, List.length_set]; exact gL GB rfl) rfl (fun i hi => match i, hi with
    | 0, _ => vg_at_o rfl (gR GB (k := 0) rfl)
    | 1, _ => vg_at_o rfl a2
    | 2, _ => vg_at_o rfl eb2
    | 3, _ => vg_at_o rfl eb3
    | 4, _ => vg_at_put eb4
    | 5, _ => vg_at_o rfl eb5
    | 6, _ => vg_at_o rfl eb6
    | 7, _ => vg_at_o rfl eb7
    | 8, _ => vg_at_o rfl eb8
    | 9, _ => vg_at_o rfl eb9)
  have hD2 : fsD = td 8 d6 d7 d8 d9 d10 d11 d12 d13 := ex_ext (m := 14) (gL GD rfl) rfl (fun i hi => match i, hi with
    | 0, _ => gR GD (k := 0) rfl
    | 1, _ => gR GD (k := 1) rfl
    | 2, _ => gR GD (k := 2) rfl
    | 3, _ => gR GD (k := 3) rfl
    | 4, _ => gR GD (k := 4) rfl
    | 5, _ => gR GD (k := 5) rfl
    | 6, _ => ed6
    | 7, _ => ed7
    | 8, _ => ed8
    | 9, _ => ed9
    | 10, _ => ed10
    | 11, _ => ed11
    | 12, _ => ed12
    | 13, _ => ed13)
  have hM2 : fsM = nm (up (up (up (fun _ => 0) 0 m23) 1 m26) 2 m33) m2 m3 m6 m8 m9 m11 m12 m13 (nI n) m16 m17 m18 m19 m20 m21 := ex_ext (m := 34) (gL GM rfl) rfl (fun i hi => match i, hi with
    | 0, _ => gR GM (k := 0) rfl
    | 1, _ => gR GM (k := 1) rfl
    | 2, _ => em2
    | 3, _ => em3
    | 4, _ => gR GM (k := 4) rfl
    | 5, _ => gR GM (k := 5) rfl
    | 6, _ => em6
    | 7, _ => gR GM (k := 7) rfl
    | 8, _ => em8
    | 9, _ => em9
    | 10, _ => gR GM (k := 10) rfl
    | 11, _ => em11
    | 12, _ => em12
    | 13, _ => em13
    | 14, _ => gR GM (k := 14) rfl
    | 15, _ => a5
    | 16, _ => em16
    | 17, _ => em17
    | 18, _ => em18
    | 19, _ => em19
    | 20, _ => em20
    | 21, _ => em21
    | 22, _ => gR GM (k := 22) rfl
    | 23, _ => em23
    | 24, _ => gR GM (k := 24) rfl
    | 25, _ => gR GM (k := 25) rfl
    | 26, _ => em26
    | 27, _ => gR GM (k := 27) rfl
    | 28, _ => gR GM (k := 28) rfl
    | 29, _ => gR GM (k := 29) rfl
    | 30, _ => gR GM (k := 30) rfl
    | 31, _ => gR GM (k := 31) rfl
    | 32, _ => gR GM (k := 32) rfl
    | 33, _ => em33
    | k + 34, hk => absurd hk (by omega))
  have hC : cA w 8 B (up (up (up (up (up (up (up (up (fun _ => 0) 0 d6) 1 d7) 2 d8) 3 d9) 4 d10) 5 d11) 6 d12) 7 d13) (up (up (up (up (up (up (fun _ => []) 0 l9) 1 l10) 2 l11) 3 l12) 4 l13) 5 l14) := ⟨a3, by subst hD2; exact hD, fun k hk => match k, hk with
    | 0, _ => g9
    | 1, _ => g10
    | 2, _ => g11
    | 3, _ => g12
    | 4, _ => g13
    | 5, _ => g14⟩
  have hcB : cB (fun i => (T.getD i 0).toInt.toNat) n B := ⟨a8, a7, fun i hi => by
    obtain ⟨q1, q2, q3⟩ := a10 i hi
    show ((T.getD i 0).toInt.toNat < 128 ∧ (B.getD i 0).toInt = ((T.getD i 0).toInt.toNat : Int)) ∨ (128 ≤ (T.getD i 0).toInt.toNat ∧ (B.getD i 0).toInt = ((T.getD i 0).toInt.toNat : Int) - 256 ∧ (T.getD i 0).toInt.toNat < 256)
    rcases q3 with ⟨q3, q4⟩ | ⟨q3, q4⟩
    · exact Or.inl ⟨by omega, by rw [q4]; omega⟩
    · exact Or.inr ⟨by omega, by rw [q4]; omega, by omega⟩⟩
  have hrB : rB (fun i => (T.getD i 0).toInt.toNat) n T := ⟨a9, a7, fun i hi => by
    obtain ⟨q1, q2, q3⟩ := a10 i hi
    exact ⟨by show (T.getD i 0).toInt.toNat < 256; omega, tI_nI (by show _ = (((T.getD i 0).toInt.toNat : Nat) : Int); omega) (by show (T.getD i 0).toInt.toNat < 2 ^ 31; omega)⟩⟩
  have h59 : ex_at w 59 = some (rC (up (up (up (fun _ => 0) 0 m23) 1 m26) 2 m33) m2 m3 m6 m8 m9 m11 m12 m13 (nI n) m16 m17 m18 m19 m20 m21) := by rw [a4, hM2]
  obtain ⟨r, wx, wm, q1, q2, ⟨gs, q3, q4⟩, ⟨gs5, q5, q6⟩, q7, q8, q9⟩ := tx_full (X := []) (d := 31) (by decide) (by decide) hcB hrB hA (gR GA (k := 0) rfl) (gR GA (k := 6) rfl) (gR GA (k := 9) rfl) (gR GA (k := 10) rfl) e11 e12 a1 eb4 hput hC n9 n10 ⟨n11, n12, n13, n14⟩ g34 n34 h59 ⟨a6, g64, g65⟩ n64 n65 g60 n60 g61 n61 g62 n62
  refine ⟨r, wx, wm, q1, q2.up, ⟨0, B, T, gs, gs5, q3, q4, q7.trans a3, q5, q6, q8.trans a6, by omega, a8, a9, fun i hi => by omega⟩, ?_⟩
  rcases q9 with ⟨⟨fa1, k0⟩, ⟨g5, k59, k7⟩, kF⟩ | ⟨tf', ta', ST', WE', dn', an', wn', KX, KM, kS, -, k0, ⟨g5, k59, k5, k6, -⟩, k34, k61, kz, kz', kF⟩
  · have kf : ∀ q, (q < 15 ∨ 34 ≤ q ∧ q ≤ 49 ∨ q = 33 ∨ q = 60 ∨ q = 61 ∨ q = 62 ∨ q = 63) → q ≠ 0 → ¬ (8 ≤ q ∧ q ≤ 8 + 6) → ex_at wm q = ex_at w q := fun q a b c => kF q b (by omega) (by omega) (by omega) (by omega) c
    refine ⟨hY.text0 hA hM_ hM2 k0 k59 k7 (kf 33 (by omega) (by omega) (by omega)) (kf 63 (by omega) (by omega) (by omega)), 1, bR_same hM k0 (vg_at_o rfl (gR GA (k := 9) rfl)) k59 ((k7 0 (by decide)).trans rfl) ((k7 4 (by decide)).trans rfl) ⟨m2, (k7 2 (by decide)).trans rfl⟩ ⟨m3, (k7 3 (by decide)).trans rfl⟩ (fd_f (i := 2) a4 k59 (by rw [hM2]; exact k7 2 (by decide))) (fd_f (i := 3) a4 k59 (by rw [hM2]; exact k7 3 (by decide))) (fun q hq => kf q (by omega) (by omega) (by omega))⟩
  · exact ⟨hY.text1 hA (gR GA (k := 8) rfl) k0 k59 k5 k6 (kF 33 (by decide) (by decide) (by decide) (by decide) (by decide) (by decide) (by decide) (by decide) (by decide) (by decide)) (kF 63 (by decide) (by decide) (by decide) (by decide) (by decide) (by decide) (by decide) (by decide) (by decide) (by decide)), 8, bR_text kS k34 k61 kz kz'⟩
theorem h23_0 {ρ : List Int} {w : ex_W} {t : Nat} {x : Int32} (H : ai_g ρ w iv_0 [] [] w) (hB : bR w t) : ∃ r wx wm, Go [] 39 mt_49 (ex_ent mt_49 [.ref 0, .int x]) w (some (.int r), wx) ∧ Go [] 39 mt_50 (ex_ent mt_50 [.ref 59, .int x]) wx (some (.int r), wm) := by
  obtain ⟨tf, ta, ST, WE, dn, an, wn, h, -⟩ := hB
  have W := H.2.2.2
  obtain ⟨fsA, hA, GA⟩ := fp_o (U := iv_0.2.2.2) (p := 0) (c := 7) W rfl
  obtain ⟨fsM, hM, GM⟩ := fp_o (U := iv_0.2.2.2) (p := 59) (c := 8) W rfl
  obtain ⟨fsP, hP, GP⟩ := fp_o (U := iv_0.2.2.2) (p := 21) (c := 2) W rfl
  obtain ⟨p5, e5, -⟩ := gI GP (k := 5) rfl
  obtain ⟨p6, e6, -⟩ := gI GP (k := 6) rfl
  obtain ⟨m26, e26, -⟩ := gI GM (k := 26) rfl
  have hP2 : fsP = pln p5 p6 := ex_ext (m := 7) (gL GP rfl) rfl (fun i hi => match i, hi with
    | 0, _ => gR GP (k := 0) rfl
    | 1, _ => gR GP (k := 1) rfl
    | 2, _ => gR GP (k := 2) rfl
    | 3, _ => gR GP (k := 3) rfl
    | 4, _ => gR GP (k := 4) rfl
    | 5, _ => e5
    | 6, _ => e6)
  obtain ⟨l22, g22, n22⟩ := gA (U := iv_0.2.2.2) (p := 22) (m := 5) (ty := .int) W rfl rfl
  obtain ⟨l23, g23, n23⟩ := gA (U := iv_0.2.2.2) (p := 23) (m := 6) (ty := .int) W rfl rfl
  obtain ⟨l24, g24, n24⟩ := gA (U := iv_0.2.2.2) (p := 24) (m := 5) (ty := .int) W rfl rfl
  obtain ⟨l25, g25, n25⟩ := gA (U := iv_0.2.2.2) (p := 25) (m := 5) (ty := .int) W rfl rfl
  obtain ⟨l68, g68, n68⟩ := gA (U := iv_0.2.2.2) (p := 68) (m := 5) (ty := .int) W rfl rfl
  obtain ⟨l69, g69, n69⟩ := gA (U := iv_0.2.2.2) (p := 69) (m := 5) (ty := .int) W rfl rfl
  exact st_plan (d := 28) h (paD_0 H) (fun gs e => by
    obtain rfl := at_obj hA e
    exact gR GA (k := 2) rfl) ⟨p5, p6, l22, l23, l24, l25, by rw [hP, hP2], g22, n22, g23, n23, g24, n24, g25, n25⟩ (fun fs5 e => by
    obtain rfl := at_obj hM e
    exact ⟨gR GM (k := 24) rfl, gR GM (k := 25) rfl, m26, e26⟩) ⟨l68, g68, n68⟩ ⟨l69, g69, n69⟩

section C1
variable {ρ ρ' : List Int} {w w' : ex_W}
theorem pa0_1 (H : ai_g ρ w iv_1 [] [] w) : ∃ gs, ex_at w 0 = some (.inr (.inr (7, gs))) ∧ ex_at gs 0 = some (.ref 15) ∧ ex_at gs 5 = some (.ref 35) ∧ ex_at gs 6 = some (.ref 34) ∧ ex_at gs 8 = some (.ref 33) ∧ ex_at gs 9 = some (.ref 8) ∧ ∃ v, ex_at gs 11 = some (.int v) := by
  obtain ⟨gs, h0, G⟩ := fp_o (U := iv_1.2.2.2) (p := 0) (c := 7) H.2.2.2 rfl
  obtain ⟨v, hv, -⟩ := gI G (k := 11) rfl
  exact ⟨gs, h0, gR G (k := 0) rfl, gR G (k := 5) rfl, gR G (k := 6) rfl, gR G (k := 8) rfl, gR G (k := 9) rfl, v, hv⟩
theorem pa59_1 (H : ai_g ρ w iv_1 [] [] w) : ∃ fs5, ex_at w 59 = some (.inr (.inr (8, fs5))) ∧ ex_at fs5 0 = some (.ref 60) ∧ ex_at fs5 1 = some (.ref 61) ∧ ex_at fs5 4 = some (.ref 62) ∧ ex_at fs5 5 = some (.ref 63) ∧ (∃ v, ex_at fs5 2 = some (.int v)) ∧ (∃ v, ex_at fs5 3 = some (.int v)) ∧ (∃ v, ex_at fs5 6 = some (.int v)) ∧ ∃ v, ex_at fs5 15 = some (.int v) := by
  obtain ⟨gs, h0, G⟩ := fp_o (U := iv_1.2.2.2) (p := 59) (c := 8) H.2.2.2 rfl
  obtain ⟨v2, e2, -⟩ := gI G (k := 2) rfl
  obtain ⟨v3, e3, -⟩ := gI G (k := 3) rfl
  obtain ⟨v6, e6, -⟩ := gI G (k := 6) rfl
  obtain ⟨v15, e15, -⟩ := gI G (k := 15) rfl
  exact ⟨gs, h0, gR G (k := 0) rfl, gR G (k := 1) rfl, gR G (k := 4) rfl, gR G (k := 5) rfl, ⟨v2, e2⟩, ⟨v3, e3⟩, ⟨v6, e6⟩, v15, e15⟩
theorem paT_1 (H : ai_g ρ w iv_1 [] [] w) : ∃ tf ta, tA w 8 tf ta ∧ tL ta ∧ (4 ≤ (tf 0).toInt ∧ (tf 0).toInt ≤ 16) ∧ (1 ≤ (tf 1).toInt ∧ (tf 1).toInt ≤ 4) := tA_of (p := 8) (U := iv_1.2.2.2) H.2.2.2 rfl rfl rfl rfl rfl rfl rfl rfl rfl rfl rfl rfl rfl
theorem paI_1 (H : ai_g ρ w iv_1 [] [] w) : ∃ tf ta, tA w 36 tf ta ∧ tL ta := by
  obtain ⟨tf, ta, h1, h2, -⟩ := tA_of (p := 36) (U := iv_1.2.2.2) H.2.2.2 rfl rfl rfl rfl rfl rfl rfl rfl rfl rfl rfl rfl rfl
  exact ⟨tf, ta, h1, h2⟩
theorem paJ_1 (H : ai_g ρ w iv_1 [] [] w) : ∃ tf ta, tA w 43 tf ta ∧ tL ta := by
  obtain ⟨tf, ta, h1, h2, -⟩ := tA_of (p := 43) (U := iv_1.2.2.2) H.2.2.2 rfl rfl rfl rfl rfl rfl rfl rfl rfl rfl rfl rfl rfl
  exact ⟨tf, ta, h1, h2⟩
theorem pa35_1 (H : ai_g ρ w iv_1 [] [] w) : ex_at w 35 = some (.inr (.inl (6, [some 36, some 43]))) := by
  obtain ⟨x, h1, -, h3⟩ := H.2.2.2.2.2 35 (false, some (.inr (.inl (6, [some 36, some 43])))) rfl
  have hx := (h3 _ rfl).row
  rw [hx] at h1
  rw [ex_at_eq]
  exact h1
theorem pa61_1 (H : ai_g ρ w iv_1 [] [] w) : ∃ KM, ex_at w 61 = some (.inl (.boolean, KM)) ∧ KM.length = 2 ∧ ∀ k, k < 2 → (KM.getD k 0).toInt = 0 ∨ (KM.getD k 0).toInt = 1 := by
  obtain ⟨l, h1, h2⟩ := fp_r (U := iv_1.2.2.2) (p := 61) (ty := .boolean) H.2.2.2 rfl
  refine ⟨l, h1, h2.len, fun k hk => ?_⟩
  obtain ⟨h3, h4, h5, -⟩ := fp_rd h2 hk
  have h4 : (0 : Int) ≤ (l.getD k 0).toInt := h4
  have h5 : (l.getD k 0).toInt ≤ (1 : Int) := h5
  omega
theorem up_t1 (H' : ai_g ρ' w' iv_1 [] [] w') (h : tpR w) (e : fd w' 59 15 = fd w 59 15) (e15 : ex_at w' 15 = ex_at w 15) (e16 : ex_at w' 16 = ex_at w 16) (e66 : ex_at w' 66 = ex_at w 66) : tpR w' := by
  obtain ⟨fs5, h59, -, -, -, -, -, -, -, v, hv⟩ := pa59_1 H'
  exact h.sm h59 hv e e15 e16 e66
theorem up_y1 (H' : ai_g ρ' w' iv_1 [] [] w') (h : yrR w) (e11 : fd w' 0 11 = fd w 0 11) (e6 : fd w' 59 6 = fd w 59 6) (e33 : ex_at w' 33 = ex_at w 33) (e63 : ex_at w' 63 = ex_at w 63) : yrR w' := by
  obtain ⟨fs5, h59, -, -, -, f5, -, -, ⟨v6, e6'⟩, -⟩ := pa59_1 H'
  obtain ⟨gs, h0, -, -, -, g8, -, v, hv⟩ := pa0_1 H'
  exact h.sm h0 g8 hv h59 f5 e6' e11 e6 e33 e63
theorem mtt_1 {t : Nat} (H : ai_g ρ w iv_1 [] [] w) (h : bR w t) : t = 8 := by
  obtain ⟨gs, h0, -, -, -, -, g9, -⟩ := pa0_1 H
  obtain ⟨tf, ta, ST, WE, dn, an, wn, ⟨-, -, ⟨gs', k0, k9⟩, -⟩, -⟩ := h
  obtain rfl := at_obj h0 k0
  cases (show some (Value.ref t) = some (.ref 8) from k9.symm.trans g9)
  rfl
theorem up_b1 (H' : ai_g ρ' w' iv_1 [] [] w') {t : Nat} (H : ai_g ρ w iv_1 [] [] w) (h : bR w t) (e2 : fd w' 59 2 = fd w 59 2) (e3 : fd w' 59 3 = fd w 59 3) (F : ∀ q ∈ bf_1, ex_at w' q = ex_at w q) : ∃ t, bR w' t := by
  obtain rfl := mtt_1 H h
  obtain ⟨gs, h0, -, -, -, -, g9, -⟩ := pa0_1 H'
  obtain ⟨fs5, h59, f0, -, f4, -, f2, f3, -⟩ := pa59_1 H'
  refine ⟨8, bR_same h h0 g9 h59 f0 f4 f2 f3 e2 e3 (fun q hq => F q ?_)⟩
  have hq : q ∈ bf_1 ↔ (8 ≤ q ∧ q ≤ 8 + 6 ∨ 34 ≤ q ∧ q ≤ 49 ∨ q = 60 ∨ q = 61 ∨ q = 62) := by
    unfold bf_1
    simp only [List.mem_cons, List.not_mem_nil, or_false]
    omega
  exact hq.mpr (by assumption)
theorem paD_1 (H : ai_g ρ w iv_1 [] [] w) : dyC w := by
  obtain ⟨fs, h17, G⟩ := fp_o (U := iv_1.2.2.2) (p := 17) (c := 0) H.2.2.2 rfl
  obtain ⟨vv, f3, -⟩ := fp_f G (k := 3) rfl
  obtain ⟨mm, f4, -⟩ := gI G (k := 4) rfl
  obtain ⟨l18, g18, n18⟩ := gA (U := iv_1.2.2.2) (p := 18) (m := 128) (ty := .int) H.2.2.2 rfl rfl
  obtain ⟨l19, g19, n19⟩ := gA (U := iv_1.2.2.2) (p := 19) (m := 128) (ty := .int) H.2.2.2 rfl rfl
  obtain ⟨l20, g20, n20⟩ := gA (U := iv_1.2.2.2) (p := 20) (m := 17) (ty := .int) H.2.2.2 rfl rfl
  obtain ⟨l67, g67, n67⟩ := gA (U := iv_1.2.2.2) (p := 67) (m := 130) (ty := .int) H.2.2.2 rfl rfl
  refine ⟨⟨fs, vv, mm, l18, l19, l20, h17, gL G rfl, gR G (k := 0) rfl, gR G (k := 1) rfl, gR G (k := 2) rfl, f3, f4, g18, g19, g20, n18, n19, n20⟩, fun gs e => ?_, fun fs5 e => ?_, ⟨l67, g67, n67⟩, fun ST e => ?_⟩
  · obtain ⟨gs', h0, G0⟩ := fp_o (U := iv_1.2.2.2) (p := 0) (c := 7) H.2.2.2 rfl
    obtain rfl := at_obj h0 e
    exact gR G0 (k := 1) rfl
  · obtain ⟨gs', h0, G0⟩ := fp_o (U := iv_1.2.2.2) (p := 59) (c := 8) H.2.2.2 rfl
    obtain rfl := at_obj h0 e
    obtain ⟨m23, e23, -⟩ := gI G0 (k := 23) rfl
    exact ⟨gR G0 (k := 22) rfl, m23, e23⟩
  · obtain ⟨l, h1, h2⟩ := fp_r (U := iv_1.2.2.2) (p := 60) (ty := .int) H.2.2.2 rfl
    obtain rfl := at_arr h1 e
    have k78 := gs_get [(1, (.ofNat 0, .ofNat 60, [])), (60, (.ofNat 0, .ofNat 16, [])), (17, (.negSucc 3, .ofNat 3, []))] l 78 h2 (by decide) (by decide)
    refine ⟨⟨k78.1, k78.2.1⟩, fun i hi => ?_⟩
    have k1 := gs_get [(1, (.ofNat 0, .ofNat 60, []))] l (1 + i) h2 (by show 1 + 0 ≤ 1 + i; omega) (by show 1 + i < 1 + 0 + 60; omega)
    exact ⟨k1.1, k1.2.1⟩
theorem paC_1 (H : ai_g ρ w iv_1 [] [] w) : sh_C w := sh_C_of (I := iv_1) rfl rfl rfl rfl rfl rfl rfl H
theorem pa13_1 (H : ai_g ρ w iv_1 [] [] w) : (∀ gs, ex_at w 0 = some (.inr (.inr (7, gs))) → ∃ m, ex_at gs 13 = some (.int m)) ∧ (∀ fs5, ex_at w 59 = some (.inr (.inr (8, fs5))) → ∃ m, ex_at fs5 33 = some (.int m)) := by
  refine ⟨fun gs e => ?_, fun fs5 e => ?_⟩
  · obtain ⟨gs', h0, G0⟩ := fp_o (U := iv_1.2.2.2) (p := 0) (c := 7) H.2.2.2 rfl
    obtain rfl := at_obj h0 e
    obtain ⟨m, em, -⟩ := gI G0 (k := 13) rfl
    exact ⟨m, em⟩
  · obtain ⟨gs', h0, G0⟩ := fp_o (U := iv_1.2.2.2) (p := 59) (c := 8) H.2.2.2 rfl
    obtain rfl := at_obj h0 e
    obtain ⟨m, em, -⟩ := gI G0 (k := 33) rfl
    exact ⟨m, em⟩
/-- steps by hand -/
theorem h0_1 {vl : Int64} (H : ai_g ρ w iv_1 [] [] w) (h : tpR w) : ∃ r wx wm, Go [] 39 mt_3 (ex_ent mt_3 [.ref 0, .long vl]) w (some (.int r), wx) ∧ Go [] 39 mt_4 (ex_ent mt_4 [.ref 59, .long vl]) wx (some (.int r), wm) ∧ tpR wm := by
  have W := H.2.2.2
  obtain ⟨fs0, h0, G0⟩ := fp_o (U := iv_1.2.2.2) (p := 0) (c := 7) W rfl
  obtain ⟨fs9, h15, G15⟩ := fp_o (U := iv_1.2.2.2) (p := 15) (c := 5) W rfl
  obtain ⟨fs5, h59, G59⟩ := fp_o (U := iv_1.2.2.2) (p := 59) (c := 8) W rfl
  obtain ⟨r, wx, wm, g1, g2, g3⟩ := fe_both (X := []) (d := 38) (vl := vl) h0 (gR G0 (k := 0) rfl) (fun fs e => by cases (show some (Sum.inr (Sum.inr (5, fs))) = some (.inr (.inr (5, fs9))) from e.symm.trans h15); exact gR G15 (k := 0) rfl) (fun fs e => by cases (show some (Sum.inr (Sum.inr (8, fs))) = some (.inr (.inr (8, fs5))) from e.symm.trans h59); exact gR G59 (k := 14) rfl) h
  exact ⟨r, wx, wm, g1, g2.up, g3⟩
theorem h1_1 {x : Int32} (H : ai_g ρ w iv_1 [] [] w) (h : tpR w) : ∃ r wx wm, Go [] 39 mt_5 (ex_ent mt_5 [.ref 0, .int x]) w (some (.int r), wx) ∧ Go [] 39 mt_6 (ex_ent mt_6 [.ref 59, .int x]) wx (some (.int r), wm) ∧ tpR wm := by
  obtain ⟨gs, h0, g0, -⟩ := pa0_1 H
  exact en_both h0 g0 h
theorem h4_1 {x : Int32} {t : Nat} (H : ai_g ρ w iv_1 [] [] w) (hB : bR w t) : ∃ r, Go [] 39 mt_11 (ex_ent mt_11 [.ref 0, .int x]) w (some (.int r), w) ∧ Go [] 39 mt_12 (ex_ent mt_12 [.ref 59, .int x]) w (some (.int r), w) := by
  obtain ⟨tf, ta, ST, WE, dn, an, wn, h, -⟩ := hB
  exact st_rule (d := 39) h
theorem h5_1 {x : Int32} {t : Nat} (H : ai_g ρ w iv_1 [] [] w) (hB : bR w t) : ∃ r, Go [] 39 mt_13 (ex_ent mt_13 [.ref 0, .int x]) w (some (.int r), w) ∧ Go [] 39 mt_14 (ex_ent mt_14 [.ref 59, .int x]) w (some (.int r), w) := by
  obtain ⟨tf, ta, ST, WE, dn, an, wn, h, -⟩ := hB
  exact st_day (d := 38) h
theorem h6_1 {x : Int32} {t : Nat} (H : ai_g ρ w iv_1 [] [] w) (hB : bR w t) : ∃ r, Go [] 39 mt_15 (ex_ent mt_15 [.ref 0, .int x]) w (some (.int r), w) ∧ Go [] 39 mt_16 (ex_ent mt_16 [.ref 59, .int x]) w (some (.int r), w) := by
  obtain ⟨tf, ta, ST, WE, dn, an, wn, h, -⟩ := hB
  exact st_weight (d := 37) h
theorem h7_1 {x : Int32} {t : Nat} (H : ai_g ρ w iv_1 [] [] w) (hB : bR w t) : ∃ r, Go [] 39 mt_17 (ex_ent mt_17 [.ref 0, .int x]) w (some (.int r), w) ∧ Go [] 39 mt_18 (ex_ent mt_18 [.ref 59, .int x]) w (some (.int r), w) := by
  obtain ⟨tf, ta, ST, WE, dn, an, wn, h, -⟩ := hB
  exact st_page (d := 37) h
theorem h8_1 {x : Int32} {t : Nat} (hB : bR w t) : ∃ r wx wm, Go [] 39 mt_19 (ex_ent mt_19 [.ref 0, .int x]) w (some (.int r), wx) ∧ Go [] 39 mt_20 (ex_ent mt_20 [.ref 59, .int x]) wx (some (.int r), wm) ∧ ∃ t, bR wm t := by
  obtain ⟨tf, ta, ST, WE, dn, an, wn, h, hi⟩ := hB
  obtain ⟨r, wx, wm, g1, g2, g3⟩ := bR_res h hi (st_gap (X := []) (d := 38) (x := x) h)
  exact ⟨r, wx, wm, g1, g2, t, g3⟩
theorem h9_1 {x : Int32} {t : Nat} (hB : bR w t) : ∃ r wx wm, Go [] 39 mt_21 (ex_ent mt_21 [.ref 0, .int x]) w (some (.int r), wx) ∧ Go [] 39 mt_22 (ex_ent mt_22 [.ref 59, .int x]) wx (some (.int r), wm) ∧ ∃ t, bR wm t := by
  obtain ⟨tf, ta, ST, WE, dn, an, wn, h, hi⟩ := hB
  obtain ⟨r, wx, wm, g1, g2, g3⟩ := bR_res h hi (st_near (X := []) (d := 38) (x := x) h)
  exact ⟨r, wx, wm, g1, g2, t, g3⟩
theorem h10_1 {x : Int32} {t : Nat} (hB : bR w t) : ∃ r wx wm, Go [] 39 mt_23 (ex_ent mt_23 [.ref 0, .int x]) w (some (.int r), wx) ∧ Go [] 39 mt_24 (ex_ent mt_24 [.ref 59, .int x]) wx (some (.int r), wm) ∧ ∃ t, bR wm t := by
  obtain ⟨tf, ta, ST, WE, dn, an, wn, h, hi⟩ := hB
  obtain ⟨r, wx, wm, g1, g2, g3⟩ := bR_res h hi (st_book (X := []) (d := 38) (x := x) h)
  exact ⟨r, wx, wm, g1, g2, t, g3⟩
theorem h11_1 {x : Int32} {y : Int32} {t : Nat} (hB : bR w t) : ∃ r wx wm, Go [] 39 mt_25 (ex_ent mt_25 [.ref 0, .int x, .int y]) w (some (.int r), wx) ∧ Go [] 39 mt_26 (ex_ent mt_26 [.ref 59, .int x, .int y]) wx (some (.int r), wm) ∧ ∃ t, bR wm t := by
  obtain ⟨tf, ta, ST, WE, dn, an, wn, h, hi⟩ := hB
  obtain ⟨r, wx, wm, g1, g2, g3⟩ := bR_res h hi (st_write (X := []) (d := 37) (x := x) (y := y) h)
  exact ⟨r, wx, wm, g1, g2, t, g3⟩
theorem h12_1 {x : Int32} {t : Nat} (hB : bR w t) : ∃ r wx wm, Go [] 39 mt_27 (ex_ent mt_27 [.ref 0, .int x]) w (some (.int r), wx) ∧ Go [] 39 mt_28 (ex_ent mt_28 [.ref 59, .int x]) wx (some (.int r), wm) ∧ ∃ t, bR wm t := by
  obtain ⟨tf, ta, ST, WE, dn, an, wn, h, hi⟩ := hB
  obtain ⟨r, wx, wm, g1, g2, g3⟩ := bR_res h hi (st_undo (X := []) (d := 38) (x := x) h)
  exact ⟨r, wx, wm, g1, g2, t, g3⟩
theorem h21_1 {x : Int32} {t : Nat} (hB : bR w t) : ∃ r wx wm, Go [] 39 mt_45 (ex_ent mt_45 [.ref 0, .int x]) w (some (.int r), wx) ∧ Go [] 39 mt_46 (ex_ent mt_46 [.ref 59, .int x]) wx (some (.int r), wm) ∧ ∃ t, bR wm t := by
  obtain ⟨tf, ta, ST, WE, dn, an, wn, h, hi⟩ := hB
  obtain ⟨r, wx, wm, g1, g2, g3⟩ := bR_res h hi (st_ask (X := []) (d := 37) (x := x) h)
  exact ⟨r, wx, wm, g1, g2, t, g3⟩
theorem h22_1 {x : Int32} {t : Nat} (hB : bR w t) : ∃ r wx wm, Go [] 39 mt_47 (ex_ent mt_47 [.ref 0, .int x]) w (some (.int r), wx) ∧ Go [] 39 mt_48 (ex_ent mt_48 [.ref 59, .int x]) wx (some (.int r), wm) ∧ ∃ t, bR wm t := by
  obtain ⟨tf, ta, ST, WE, dn, an, wn, h, hi⟩ := hB
  obtain ⟨r, wx, wm, g1, g2, g3⟩ := bR_res h hi (st_drop (X := []) (d := 38) (x := x) h)
  exact ⟨r, wx, wm, g1, g2, t, g3⟩
theorem h29_1 {x : Int32} {y : Int32} {t : Nat} (hB : bR w t) : ∃ r wx wm, Go [] 39 mt_61 (ex_ent mt_61 [.ref 0, .int x, .int y]) w (some (.int r), wx) ∧ Go [] 39 mt_62 (ex_ent mt_62 [.ref 59, .int x, .int y]) wx (some (.int r), wm) ∧ ∃ t, bR wm t := by
  obtain ⟨tf, ta, ST, WE, dn, an, wn, h, hi⟩ := hB
  obtain ⟨r, wx, wm, g1, g2, g3⟩ := bR_res h hi (st_stay (X := []) (d := 37) (x := x) (y := y) h)
  exact ⟨r, wx, wm, g1, g2, t, g3⟩
theorem h30_1  {t : Nat} (hB : bR w t) : ∃ r wx wm, Go [] 39 mt_63 (ex_ent mt_63 [.ref 0]) w (some (.int r), wx) ∧ Go [] 39 mt_64 (ex_ent mt_64 [.ref 59]) wx (some (.int r), wm) ∧ ∃ t, bR wm t := by
  obtain ⟨tf, ta, ST, WE, dn, an, wn, h, hi⟩ := hB
  obtain ⟨r, wx, wm, g1, g2, g3⟩ := bR_res h hi (st_serve (X := []) (d := 39) h)
  exact ⟨r, wx, wm, g1, g2, t, g3⟩
theorem h16_1 {x : Int32} {t : Nat} (H : ai_g ρ w iv_1 [] [] w) (hB : bR w t) : ∃ r r' wx wm, Go [] 39 mt_35 (ex_ent mt_35 [.ref 0, .int x]) w (some (.int r), wx) ∧ Go [] 39 mt_36 (ex_ent mt_36 [.ref 59, .int x]) wx (some (.int r'), wm) ∧ ∃ t, bR wm t := by
  obtain ⟨tf, ta, ST, WE, dn, an, wn, h, hi⟩ := hB
  have ht := h.2.1
  obtain ⟨r, r', wx, wm, tf', ta', ST', dn', g1, g2, hs, ⟨e0, e1, -⟩, eS, -, F⟩ := st_ring (X := []) (d := 37) (x := x) h (paD_1 H)
  exact ⟨r, r', wx, wm, g1, g2, t, bR_step hi h.2.2.2.2.2.2.1 hs e0 e1 eS (fun q hq => F q (by omega) (by omega) (by omega) (by omega) (by omega))⟩
theorem h18_1 {x : Int32} {t : Nat} (H : ai_g ρ w iv_1 [] [] w) (hY : yrR w) (hB : bR w t) : ∃ r wx wm, Go [] 39 mt_39 (ex_ent mt_39 [.ref 0, .int x]) w (some (.int r), wx) ∧ Go [] 39 mt_40 (ex_ent mt_40 [.ref 59, .int x]) wx (some (.int r), wm) ∧ yrR wm := by
  obtain ⟨tf, ta, ST, WE, dn, an, wn, ⟨t0, t6, ⟨gs, h0, g9⟩, hT, ⟨fs5, h59, -, f2, -⟩, -, -, hR⟩, -⟩ := hB
  exact yr_tell (d := 37) t0 t6 h0 g9 hT.1 hR.2.1.2.2.2.2.2.2.2.2.2.2.2.2.2.2.2.1 h59 f2 hY
theorem h19_1 {x : Int32} (hY : yrR w) : ∃ r wx wm, Go [] 39 mt_41 (ex_ent mt_41 [.ref 0, .int x]) w (some (.int r), wx) ∧ Go [] 39 mt_42 (ex_ent mt_42 [.ref 59, .int x]) wx (some (.int r), wm) ∧ yrR wm := yr_cut (d := 38) hY
theorem h33_1 {x : Int32} {t : Nat} (H : ai_g ρ w iv_1 [] [] w) (hB : bR w t) : ∃ r wx wm, Go [] 39 mt_69 (ex_ent mt_69 [.ref 0, .int x]) w (some (.int r), wx) ∧ Go [] 39 mt_70 (ex_ent mt_70 [.ref 59, .int x]) wx (some (.int r), wm) ∧ ∃ t, bR wm t := by
  obtain rfl := mtt_1 H hB
  obtain ⟨tf, ta, ST, WE, dn, an, wn, h, hi⟩ := hB
  obtain ⟨gs, h0, -, g5, g6, -, g9, -⟩ := pa0_1 H
  obtain ⟨fs5, h59, f0, f1, -⟩ := pa59_1 H
  obtain ⟨tf0, ta0, hI0, lI0⟩ := paI_1 H
  obtain ⟨tf1, ta1, hI1, lI1⟩ := paJ_1 H
  obtain ⟨r, wx, wm, g1, g2, g3⟩ := bk_keep (x := x) (by decide) h hi h0 g5 g6 g9 (pa35_1 H) hI0 lI0 hI1 lI1 h59 f0 f1 (fun KM e => by
    obtain ⟨KM', k1, -, k3⟩ := pa61_1 H
    obtain rfl := at_arr k1 e
    exact k3)
  exact ⟨r, wx, wm, g1, g2, 8, g3⟩
theorem h34_1 {x : Int32} {t : Nat} (H : ai_g ρ w iv_1 [] [] w) (hB : bR w t) : ∃ r wx wm, Go [] 39 mt_71 (ex_ent mt_71 [.ref 0, .int x]) w (some (.int r), wx) ∧ Go [] 39 mt_72 (ex_ent mt_72 [.ref 59, .int x]) wx (some (.int r), wm) ∧ ∃ t, bR wm t := by
  obtain rfl := mtt_1 H hB
  obtain ⟨tf, ta, ST, WE, dn, an, wn, h, hi⟩ := hB
  obtain ⟨gs, h0, -, g5, g6, -, g9, -⟩ := pa0_1 H
  obtain ⟨fs5, h59, f0, f1, -⟩ := pa59_1 H
  obtain ⟨tf0, ta0, hI0, lI0⟩ := paI_1 H
  obtain ⟨tf1, ta1, hI1, lI1⟩ := paJ_1 H
  obtain ⟨r, wx, wm, g1, g2, g3⟩ := bk_back (x := x) (by decide) h hi h0 g5 g6 g9 (pa35_1 H) hI0 lI0 hI1 lI1 h59 f0 f1
  exact ⟨r, wx, wm, g1, g2, 8, g3⟩
theorem h37_1 {x1 x2 x3 x4 : Int32} {t : Nat} (H : ai_g ρ w iv_1 [] [] w) (hB : bR w t) (hA : sh_A w) (hO : fd w 0 13 = fd w 59 33) : ∃ r wx wm, Go [] 39 mt_77 (ex_ent mt_77 [.ref 0, .int x1, .int x2, .int x3, .int x4]) w (some (.int r), wx) ∧ Go [] 39 mt_78 (ex_ent mt_78 [.ref 59, .int x1, .int x2, .int x3, .int x4]) wx (some (.int r), wm) ∧ fd wm 0 13 = fd wm 59 33 ∧ ∃ t, bR wm t := by
  obtain ⟨tf, ta, ST, WE, dn, an, wn, h, hi⟩ := hB
  have ht := h.2.1
  obtain ⟨r, wx, wm, tf', ta', ST', dn', g1, g2, hs, ⟨e0, e1, -⟩, eS, hto, F⟩ := st_read (k := x1) (y := x2) (g := x3) (c := x4) h (paD_1 H) hA (paC_1 H) (pa13_1 H).1 (pa13_1 H).2
  refine ⟨r, wx, wm, g1, g2, ?_, t, bR_step hi h.2.2.2.2.2.2.1 hs e0 e1 eS (fun q hq => F q (by omega) (by omega) (by omega) (by omega) (by omega) (by omega))⟩
  rcases hto with ⟨u, v⟩ | u
  · rw [u, v]
    exact hO
  · exact u
theorem h38_1 (H : ai_g ρ w iv_1 [] [] w) (hO : fd w 0 13 = fd w 59 33) : ∃ r, Go [] 39 mt_79 (ex_ent mt_79 [.ref 0]) w (some (.int r), w) ∧ Go [] 39 mt_80 (ex_ent mt_80 [.ref 59]) w (some (.int r), w) := by
  obtain ⟨gs, h0, -⟩ := pa0_1 H
  obtain ⟨fs5, h59, -⟩ := pa59_1 H
  obtain ⟨m, e13⟩ := (pa13_1 H).1 gs h0
  obtain ⟨m', e33⟩ := (pa13_1 H).2 fs5 h59
  obtain rfl : m = m' := fd_int h0 e13 (hO.trans (fd_obj h59 e33))
  exact ⟨m, tn_c h0 e13, tn_m h59 e33⟩
end C1

theorem tx_st1 {ρ : List Int} {w : ex_W} (H : ai_g ρ w iv_1 [] [] w) (h : tpR w) (hY : yrR w) (hM : bR w 8) : ∃ r wx wm, Go [] 39 mt_7 (ex_ent mt_7 [.ref 0]) w (some (.int r), wx) ∧ Go [] 39 mt_8 (ex_ent mt_8 [.ref 59]) wx (some (.int r), wm) ∧ tpR wm ∧ yrR wm ∧ ∃ t, bR wm t := by
  obtain ⟨n, B, T, fs, fs5, a1, a2, a3, a4, a5, a6, a7, a8, a9, a10⟩ := h
  have W := H.2.2.2
  obtain ⟨fsA, hA, GA⟩ := fp_o (U := iv_1.2.2.2) (p := 0) (c := 7) W rfl
  obtain ⟨fsB, hB, GB⟩ := fp_o (U := iv_1.2.2.2) (p := 15) (c := 5) W rfl
  obtain ⟨fsD, hD, GD⟩ := fp_o (U := iv_1.2.2.2) (p := 1) (c := 6) W rfl
  obtain ⟨fsM, hM_, GM⟩ := fp_o (U := iv_1.2.2.2) (p := 59) (c := 8) W rfl
  obtain rfl : fsB = fs := by
    cases (show some (Sum.inr (Sum.inr (5, fsB))) = some (.inr (.inr (5, fs))) from hB.symm.trans a1)
    rfl
  obtain rfl : fsM = fs5 := by
    cases (show some (Sum.inr (Sum.inr (8, fsM))) = some (.inr (.inr (8, fs5))) from hM_.symm.trans a4)
    rfl
  obtain ⟨z11, e11, -⟩ := gI GA (k := 11) rfl
  obtain ⟨z12, e12, -⟩ := gI GA (k := 12) rfl
  obtain ⟨b2, eb2, -⟩ := gI GB (k := 2) rfl
  obtain ⟨b3, eb3, -⟩ := gI GB (k := 3) rfl
  obtain ⟨b5, eb5, -⟩ := gI GB (k := 5) rfl
  obtain ⟨b6, eb6, -⟩ := gI GB (k := 6) rfl
  obtain ⟨b7, eb7, -⟩ := gI GB (k := 7) rfl
  obtain ⟨b8, eb8, -⟩ := gI GB (k := 8) rfl
  obtain ⟨b9, eb9, -⟩ := gI GB (k := 9) rfl
  obtain ⟨vv, eb4, -⟩ := fp_f GB (k := 4) rfl
  obtain ⟨d6, ed6, -⟩ := gI GD (k := 6) rfl
  obtain ⟨d7, ed7, -⟩ := gI GD (k := 7) rfl
  obtain ⟨d8, ed8, -⟩ := gI GD (k := 8) rfl
  obtain ⟨d9, ed9, -⟩ := gI GD (k := 9) rfl
  obtain ⟨d10, ed10, -⟩ := gI GD (k := 10) rfl
  obtain ⟨d11, ed11, -⟩ := gI GD (k := 11) rfl
  obtain ⟨d12, ed12, -⟩ := gI GD (k := 12) rfl
  obtain ⟨d13, ed13, -⟩ := gI GD (k := 13) rfl
  obtain ⟨m2, em2, -⟩ := gI GM (k := 2) rfl
  obtain ⟨m3, em3, -⟩ := gI GM (k := 3) rfl
  obtain ⟨m6, em6, -⟩ := gI GM (k := 6) rfl
  obtain ⟨m8, em8, -⟩ := gI GM (k := 8) rfl
  obtain ⟨m9, em9, -⟩ := gI GM (k := 9) rfl
  obtain ⟨m11, em11, -⟩ := gI GM (k := 11) rfl
  obtain ⟨m12, em12, -⟩ := gI GM (k := 12) rfl
  obtain ⟨m13, em13, -⟩ := gI GM (k := 13) rfl
  obtain ⟨m16, em16, -⟩ := gI GM (k := 16) rfl
  obtain ⟨m17, em17, -⟩ := gI GM (k := 17) rfl
  obtain ⟨m18, em18, -⟩ := gI GM (k := 18) rfl
  obtain ⟨m19, em19, -⟩ := gI GM (k := 19) rfl
  obtain ⟨m20, em20, -⟩ := gI GM (k := 20) rfl
  obtain ⟨m21, em21, -⟩ := gI GM (k := 21) rfl
  obtain ⟨m23, em23, -⟩ := gI GM (k := 23) rfl
  obtain ⟨m26, em26, -⟩ := gI GM (k := 26) rfl
  obtain ⟨m33, em33, -⟩ := gI GM (k := 33) rfl
  obtain ⟨l2, g2, n2⟩ := gA (U := iv_1.2.2.2) (p := 2) (m := 4) (ty := .int) W rfl rfl
  obtain ⟨l3, g3, n3⟩ := gA (U := iv_1.2.2.2) (p := 3) (m := 17) (ty := .int) W rfl rfl
  obtain ⟨l4, g4, n4⟩ := gA (U := iv_1.2.2.2) (p := 4) (m := 60) (ty := .int) W rfl rfl
  obtain ⟨l5, g5, n5⟩ := gA (U := iv_1.2.2.2) (p := 5) (m := 5) (ty := .int) W rfl rfl
  obtain ⟨l6, g6, n6⟩ := gA (U := iv_1.2.2.2) (p := 6) (m := 4) (ty := .int) W rfl rfl
  obtain ⟨l7, g7, n7⟩ := gA (U := iv_1.2.2.2) (p := 7) (m := 4) (ty := .int) W rfl rfl
  obtain ⟨l34, g34, n34⟩ := gA (U := iv_1.2.2.2) (p := 34) (m := 2) (ty := .boolean) W rfl rfl
  obtain ⟨l60, g60, n60⟩ := gA (U := iv_1.2.2.2) (p := 60) (m := 288) (ty := .int) W rfl rfl
  obtain ⟨l61, g61, n61⟩ := gA (U := iv_1.2.2.2) (p := 61) (m := 2) (ty := .boolean) W rfl rfl
  obtain ⟨l62, g62, n62⟩ := gA (U := iv_1.2.2.2) (p := 62) (m := 4) (ty := .int) W rfl rfl
  obtain ⟨l64, g64, n64⟩ := gA (U := iv_1.2.2.2) (p := 64) (m := 96) (ty := .int) W rfl rfl
  obtain ⟨l65, g65, n65⟩ := gA (U := iv_1.2.2.2) (p := 65) (m := 4) (ty := .int) W rfl rfl
  have hput : ex_put fsB 4 (.ref 1) = tr 1 (nI n) b2 b3 b5 b6 b7 b8 b9 := ex_ext (m := 10) (by rw [ex_put_eq, List.length_set]; exact gL GB rfl) rfl (fun i hi => match i, hi with
    | 0, _ => vg_at_o rfl (gR GB (k := 0) rfl)
    | 1, _ => vg_at_o rfl a2
    | 2, _ => vg_at_o rfl eb2
    | 3, _ => vg_at_o rfl eb3
    | 4, _ => vg_at_put eb4
    | 5, _ => vg_at_o rfl eb5
    | 6, _ => vg_at_o rfl eb6
    | 7, _ => vg_at_o rfl eb7
    | 8, _ => vg_at_o rfl eb8
    | 9, _ => vg_at_o rfl eb9)
  have hD2 : fsD = td 1 d6 d7 d8 d9 d10 d11 d12 d13 := ex_ext (m := 14) (gL GD rfl) rfl (fun i hi => match i, hi with
    | 0, _ => gR GD (k := 0) rfl
    | 1, _ => gR GD (k := 1) rfl
    | 2, _ => gR GD (k := 2) rfl
    | 3, _ => gR GD (k := 3) rfl
    | 4, _ => gR GD (k := 4) rfl
    | 5, _ => gR GD (k := 5) rfl
    | 6, _ => ed6
    | 7, _ => ed7
    | 8, _ => ed8
    | 9, _ => ed9
    | 10, _ => ed10
    | 11, _ => ed11
    | 12, _ => ed12
    | 13, _ => ed13)
  have hM2 : fsM = nm (up (up (up (fun _ => 0) 0 m23) 1 m26) 2 m33) m2 m3 m6 m8 m9 m11 m12 m13 (nI n) m16 m17 m18 m19 m20 m21 := ex_ext (m := 34) (gL GM rfl) rfl (fun i hi => match i, hi with
    | 0, _ => gR GM (k := 0) rfl
    | 1, _ => gR GM (k := 1) rfl
    | 2, _ => em2
    | 3, _ => em3
    | 4, _ => gR GM (k := 4) rfl
    | 5, _ => gR GM (k := 5) rfl
    | 6, _ => em6
    | 7, _ => gR GM (k := 7) rfl
    | 8, _ => em8
    | 9, _ => em9
    | 10, _ => gR GM (k := 10) rfl
    | 11, _ => em11
    | 12, _ => em12
    | 13, _ => em13
    | 14, _ => gR GM (k := 14) rfl
    | 15, _ => a5
    | 16, _ => em16
    | 17, _ => em17
    | 18, _ => em18
    | 19, _ => em19
    | 20, _ => em20
    | 21, _ => em21
    | 22, _ => gR GM (k := 22) rfl
    | 23, _ => em23
    | 24, _ => gR GM (k := 24) rfl
    | 25, _ => gR GM (k := 25) rfl
    | 26, _ => em26
    | 27, _ => gR GM (k := 27) rfl
    | 28, _ => gR GM (k := 28) rfl
    | 29, _ => gR GM (k := 29) rfl
    | 30, _ => gR GM (k := 30) rfl
    | 31, _ => gR GM (k := 31) rfl
    | 32, _ => gR GM (k := 32) rfl
    | 33, _ => em33
    | k + 34, hk => absurd hk (by omega))
  have hC : cA w 1 B (up (up (up (up (up (up (up (up (fun _ => 0) 0 d6) 1 d7) 2 d8) 3 d9) 4 d10) 5 d11) 6 d12) 7 d13) (up (up (up (up (up (up (fun _ => []) 0 l2) 1 l3) 2 l4) 3 l5) 4 l6) 5 l7) := ⟨a3, by subst hD2; exact hD, fun k hk => match k, hk with
    | 0, _ => g2
    | 1, _ => g3
    | 2, _ => g4
    | 3, _ => g5
    | 4, _ => g6
    | 5, _ => g7⟩
  have hcB : cB (fun i => (T.getD i 0).toInt.toNat) n B := ⟨a8, a7, fun i hi => by
    obtain ⟨q1, q2, q3⟩ := a10 i hi
    show ((T.getD i 0).toInt.toNat < 128 ∧ (B.getD i 0).toInt = ((T.getD i 0).toInt.toNat : Int)) ∨ (128 ≤ (T.getD i 0).toInt.toNat ∧ (B.getD i 0).toInt = ((T.getD i 0).toInt.toNat : Int) - 256 ∧ (T.getD i 0).toInt.toNat < 256)
    rcases q3 with ⟨q3, q4⟩ | ⟨q3, q4⟩
    · exact Or.inl ⟨by omega, by rw [q4]; omega⟩
    · exact Or.inr ⟨by omega, by rw [q4]; omega, by omega⟩⟩
  have hrB : rB (fun i => (T.getD i 0).toInt.toNat) n T := ⟨a9, a7, fun i hi => by
    obtain ⟨q1, q2, q3⟩ := a10 i hi
    exact ⟨by show (T.getD i 0).toInt.toNat < 256; omega, tI_nI (by show _ = (((T.getD i 0).toInt.toNat : Nat) : Int); omega) (by show (T.getD i 0).toInt.toNat < 2 ^ 31; omega)⟩⟩
  have h59 : ex_at w 59 = some (rC (up (up (up (fun _ => 0) 0 m23) 1 m26) 2 m33) m2 m3 m6 m8 m9 m11 m12 m13 (nI n) m16 m17 m18 m19 m20 m21) := by rw [a4, hM2]
  obtain ⟨r, wx, wm, q1, q2, ⟨gs, q3, q4⟩, ⟨gs5, q5, q6⟩, q7, q8, q9⟩ := tx_full (X := []) (d := 31) (by decide) (by decide) hcB hrB hA (gR GA (k := 0) rfl) (gR GA (k := 6) rfl) (gR GA (k := 9) rfl) (gR GA (k := 10) rfl) e11 e12 a1 eb4 hput hC n2 n3 ⟨n4, n5, n6, n7⟩ g34 n34 h59 ⟨a6, g64, g65⟩ n64 n65 g60 n60 g61 n61 g62 n62
  refine ⟨r, wx, wm, q1, q2.up, ⟨0, B, T, gs, gs5, q3, q4, q7.trans a3, q5, q6, q8.trans a6, by omega, a8, a9, fun i hi => by omega⟩, ?_⟩
  rcases q9 with ⟨⟨fa1, k0⟩, ⟨g5, k59, k7⟩, kF⟩ | ⟨tf', ta', ST', WE', dn', an', wn', KX, KM, kS, -, k0, ⟨g5, k59, k5, k6, -⟩, k34, k61, kz, kz', kF⟩
  · have kf : ∀ q, (q < 15 ∨ 34 ≤ q ∧ q ≤ 49 ∨ q = 33 ∨ q = 60 ∨ q = 61 ∨ q = 62 ∨ q = 63) → q ≠ 0 → ¬ (1 ≤ q ∧ q ≤ 1 + 6) → ex_at wm q = ex_at w q := fun q a b c => kF q b (by omega) (by omega) (by omega) (by omega) c
    refine ⟨hY.text0 hA hM_ hM2 k0 k59 k7 (kf 33 (by omega) (by omega) (by omega)) (kf 63 (by omega) (by omega) (by omega)), 8, bR_same hM k0 (vg_at_o rfl (gR GA (k := 9) rfl)) k59 ((k7 0 (by decide)).trans rfl) ((k7 4 (by decide)).trans rfl) ⟨m2, (k7 2 (by decide)).trans rfl⟩ ⟨m3, (k7 3 (by decide)).trans rfl⟩ (fd_f (i := 2) a4 k59 (by rw [hM2]; exact k7 2 (by decide))) (fd_f (i := 3) a4 k59 (by rw [hM2]; exact k7 3 (by decide))) (fun q hq => kf q (by omega) (by omega) (by omega))⟩
  · exact ⟨hY.text1 hA (gR GA (k := 8) rfl) k0 k59 k5 k6 (kF 33 (by decide) (by decide) (by decide) (by decide) (by decide) (by decide) (by decide) (by decide) (by decide) (by decide)) (kF 63 (by decide) (by decide) (by decide) (by decide) (by decide) (by decide) (by decide) (by decide) (by decide) (by decide)), 1, bR_text kS k34 k61 kz kz'⟩
theorem h23_1 {ρ : List Int} {w : ex_W} {t : Nat} {x : Int32} (H : ai_g ρ w iv_1 [] [] w) (hB : bR w t) : ∃ r wx wm, Go [] 39 mt_49 (ex_ent mt_49 [.ref 0, .int x]) w (some (.int r), wx) ∧ Go [] 39 mt_50 (ex_ent mt_50 [.ref 59, .int x]) wx (some (.int r), wm) := by
  obtain ⟨tf, ta, ST, WE, dn, an, wn, h, -⟩ := hB
  have W := H.2.2.2
  obtain ⟨fsA, hA, GA⟩ := fp_o (U := iv_1.2.2.2) (p := 0) (c := 7) W rfl
  obtain ⟨fsM, hM, GM⟩ := fp_o (U := iv_1.2.2.2) (p := 59) (c := 8) W rfl
  obtain ⟨fsP, hP, GP⟩ := fp_o (U := iv_1.2.2.2) (p := 21) (c := 2) W rfl
  obtain ⟨p5, e5, -⟩ := gI GP (k := 5) rfl
  obtain ⟨p6, e6, -⟩ := gI GP (k := 6) rfl
  obtain ⟨m26, e26, -⟩ := gI GM (k := 26) rfl
  have hP2 : fsP = pln p5 p6 := ex_ext (m := 7) (gL GP rfl) rfl (fun i hi => match i, hi with
    | 0, _ => gR GP (k := 0) rfl
    | 1, _ => gR GP (k := 1) rfl
    | 2, _ => gR GP (k := 2) rfl
    | 3, _ => gR GP (k := 3) rfl
    | 4, _ => gR GP (k := 4) rfl
    | 5, _ => e5
    | 6, _ => e6)
  obtain ⟨l22, g22, n22⟩ := gA (U := iv_1.2.2.2) (p := 22) (m := 5) (ty := .int) W rfl rfl
  obtain ⟨l23, g23, n23⟩ := gA (U := iv_1.2.2.2) (p := 23) (m := 6) (ty := .int) W rfl rfl
  obtain ⟨l24, g24, n24⟩ := gA (U := iv_1.2.2.2) (p := 24) (m := 5) (ty := .int) W rfl rfl
  obtain ⟨l25, g25, n25⟩ := gA (U := iv_1.2.2.2) (p := 25) (m := 5) (ty := .int) W rfl rfl
  obtain ⟨l68, g68, n68⟩ := gA (U := iv_1.2.2.2) (p := 68) (m := 5) (ty := .int) W rfl rfl
  obtain ⟨l69, g69, n69⟩ := gA (U := iv_1.2.2.2) (p := 69) (m := 5) (ty := .int) W rfl rfl
  exact st_plan (d := 28) h (paD_1 H) (fun gs e => by
    obtain rfl := at_obj hA e
    exact gR GA (k := 2) rfl) ⟨p5, p6, l22, l23, l24, l25, by rw [hP, hP2], g22, n22, g23, n23, g24, n24, g25, n25⟩ (fun fs5 e => by
    obtain rfl := at_obj hM e
    exact ⟨gR GM (k := 24) rfl, gR GM (k := 25) rfl, m26, e26⟩) ⟨l68, g68, n68⟩ ⟨l69, g69, n69⟩

