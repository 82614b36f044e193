/-! WHAT OF BOTH IS ALIKE, in the law's loop: the tape, the year, most, matters, weights. Written by wip/law/mgen.py. -/
def iv_0 : ai_S := ([(.ofNat 0, .ofNat 400), (.ofNat 0, .ofNat 12), (.ofNat 0, .ofNat 12), (.ofNat 4, .ofNat 16), (.ofNat 1, .ofNat 4), (.ofNat 4, .ofNat 16), (.ofNat 1, .ofNat 4), (.ofNat 0, .ofNat 4), (.ofNat 0, .ofNat 4)], [], [], [(false, some (.inr (.inr (7, [.inr (some (.ref 15)), .inr (some (.ref 17)), .inr (some (.ref 21)), .inr (some (.ref 26)), .inr (some (.ref 32)), .inr (some (.ref 35)), .inr (some (.ref 34)), .inr (some (.ref 50)), .inr (some (.ref 33)), .inr (some (.ref 1)), .inr (some (.ref 8)), .inl (false, (.ofNat 0, .ofNat 12, [(1, .ofNat 0, .ofNat 0)])), .inl (false, (.ofNat 0, .ofNat 6, [])), .inl (false, (.ofNat 0, .ofNat 4, [(8, .ofNat 0, .ofNat 0)]))])))), (false, some (.inr (.inr (6, [.inr (some (.ref 2)), .inr (some (.ref 3)), .inr (some (.ref 4)), .inr (some (.ref 5)), .inr (some (.ref 6)), .inr (some (.ref 7)), .inl (false, (.ofNat 4, .ofNat 16, [(3, .ofNat 0, .ofNat 0)])), .inl (false, (.ofNat 1, .ofNat 4, [(4, .ofNat 0, .ofNat 0)])), .inl (false, (.negSucc 2147483647, .ofNat 2147483647, [])), .inl (false, (.negSucc 2147483647, .ofNat 2147483647, [])), .inl (false, (.negSucc 2147483647, .ofNat 2147483647, [])), .inl (false, (.ofNat 0, .ofNat 60, [])), .inl (false, (.ofNat 0, .ofNat 5, [])), .inl (false, (.ofNat 0, .ofNat 4, []))])))), (false, some (.inl (.int, [(4, (.negSucc 2147483647, .ofNat 2147483647, []))]))), (false, some (.inl (.int, [(17, (.negSucc 2147483647, .ofNat 2147483647, []))]))), (false, some (.inl (.int, [(60, (.negSucc 2147483647, .ofNat 2147483647, []))]))), (false, some (.inl (.int, [(5, (.negSucc 2147483647, .ofNat 2147483647, []))]))), (false, some (.inl (.int, [(4, (.negSucc 2147483647, .ofNat 2147483647, []))]))), (false, some (.inl (.int, [(4, (.negSucc 2147483647, .ofNat 2147483647, []))]))), (false, some (.inr (.inr (6, [.inr (some (.ref 9)), .inr (some (.ref 10)), .inr (some (.ref 11)), .inr (some (.ref 12)), .inr (some (.ref 13)), .inr (some (.ref 14)), .inl (false, (.ofNat 4, .ofNat 16, [])), .inl (false, (.ofNat 1, .ofNat 4, [])), .inl (false, (.negSucc 2147483647, .ofNat 2147483647, [])), .inl (false, (.negSucc 2147483647, .ofNat 2147483647, [])), .inl (false, (.negSucc 2147483647, .ofNat 2147483647, [])), .inl (false, (.ofNat 0, .ofNat 60, [])), .inl (false, (.ofNat 0, .ofNat 5, [])), .inl (false, (.ofNat 0, .ofNat 4, []))])))), (false, some (.inl (.int, [(4, (.negSucc 2147483647, .ofNat 2147483647, []))]))), (false, some (.inl (.int, [(17, (.negSucc 2147483647, .ofNat 2147483647, []))]))), (false, some (.inl (.int, [(60, (.negSucc 2147483647, .ofNat 2147483647, []))]))), (false, some (.inl (.int, [(5, (.negSucc 2147483647, .ofNat 2147483647, []))]))), (false, some (.inl (.int, [(4, (.negSucc 2147483647, .ofNat 2147483647, []))]))), (false, some (.inl (.int, [(4, (.negSucc 2147483647, .ofNat 2147483647, []))]))), (false, some (.inr (.inr (5, [.inr (some (.ref 16)), .inl (false, (.ofNat 0, .ofNat 400, [])), .inl (false, (.ofNat 0, .ofNat 6, [])), .inl (false, (.ofNat 0, .ofNat 400, [])), .inr none, .inl (false, (.negSucc 2147483647, .ofNat 2147483647, [])), .inl (false, (.ofNat 0, .ofNat 400, [])), .inl (false, (.ofNat 0, .ofNat 3, [])), .inl (false, (.ofNat 0, .ofNat 400, [])), .inl (false, (.negSucc 2147483647, .ofNat 2147483647, []))])))), (false, some (.inl (.byte, [(400, (.negSucc 127, .ofNat 127, []))]))), (false, some (.inr (.inr (0, [.inr (some (.ref 18)), .inr (some (.ref 19)), .inr (some (.ref 20)), .inr none, .inl (false, (.ofNat 0, .ofNat 128, []))])))), (false, some (.inl (.int, [(128, (.ofNat 0, .ofNat 16, []))]))), (false, some (.inl (.int, [(128, (.negSucc 0, .ofNat 127, []))]))), (false, some (.inl (.int, [(17, (.negSucc 0, .ofNat 127, []))]))), (false, some (.inr (.inr (2, [.inr (some (.ref 17)), .inr (some (.ref 22)), .inr (some (.ref 23)), .inr (some (.ref 24)), .inr (some (.ref 25)), .inl (false, (.ofNat 0, .ofNat 5, [])), .inl (false, (.negSucc 2147483647, .ofNat 2147483647, []))])))), (false, some (.inl (.int, [(5, (.negSucc 2147483647, .ofNat 2147483647, []))]))), (false, some (.inl (.int, [(6, (.negSucc 2147483647, .ofNat 2147483647, []))]))), (false, some (.inl (.int, [(5, (.ofNat 0, .ofNat 16, []))]))), (false, some (.inl (.int, [(5, (.ofNat 0, .ofNat 16, []))]))), (false, some (.inr (.inr (1, [.inr (some (.ref 17)), .inr (some (.ref 27)), .inr (some (.ref 28)), .inr (some (.ref 29)), .inr (some (.ref 30)), .inr (some (.ref 31)), .inl (false, (.ofNat 0, .ofNat 4, [])), .inl (false, (.negSucc 2147483647, .ofNat 2147483647, []))])))), (false, some (.inl (.int, [(4, (.negSucc 2147483647, .ofNat 2147483647, []))]))), (false, some (.inl (.int, [(4, (.ofNat 0, .ofNat 4, []))]))), (false, some (.inl (.int, [(4, (.ofNat 0, .ofNat 16, []))]))), (false, some (.inl (.int, [(4, (.ofNat 0, .ofNat 4, []))]))), (false, some (.inl (.int, [(4, (.ofNat 0, .ofNat 16, []))]))), (false, some (.inr (.inr (3, [.inl (false, (.ofNat 0, .ofNat 16, [])), .inl (false, (.negSucc 2147483647, .ofNat 2147483647, [])), .inl (false, (.negSucc 2147483647, .ofNat 2147483647, [])), .inl (false, (.negSucc 2147483647, .ofNat 2147483647, [])), .inl (false, (.negSucc 2147483647, .ofNat 2147483647, []))])))), (false, some (.inl (.int, [(12, (.ofNat 0, .ofNat 16, []))]))), (false, some (.inl (.boolean, [(2, (.ofNat 0, .ofNat 1, []))]))), (false, some (.inr (.inl (6, [some 36, some 43])))), (false, some (.inr (.inr (6, [.inr (some (.ref 37)), .inr (some (.ref 38)), .inr (some (.ref 39)), .inr (some (.ref 40)), .inr (some (.ref 41)), .inr (some (.ref 42)), .inl (false, (.ofNat 4, .ofNat 16, [])), .inl (false, (.ofNat 1, .ofNat 4, [])), .inl (false, (.negSucc 2147483647, .ofNat 2147483647, [])), .inl (false, (.negSucc 2147483647, .ofNat 2147483647, [])), .inl (false, (.negSucc 2147483647, .ofNat 2147483647, [])), .inl (false, (.ofNat 0, .ofNat 60, [])), .inl (false, (.ofNat 0, .ofNat 5, [])), .inl (false, (.ofNat 0, .ofNat 4, []))])))), (false, some (.inl (.int, [(4, (.negSucc 2147483647, .ofNat 2147483647, []))]))), (false, some (.inl (.int, [(17, (.negSucc 2147483647, .ofNat 2147483647, []))]))), (false, some (.inl (.int, [(60, (.negSucc 2147483647, .ofNat 2147483647, []))]))), (false, some (.inl (.int, [(5, (.negSucc 2147483647, .ofNat 2147483647, []))]))), (false, some (.inl (.int, [(4, (.negSucc 2147483647, .ofNat 2147483647, []))]))), (false, some (.inl (.int, [(4, (.negSucc 2147483647, .ofNat 2147483647, []))]))), (false, some (.inr (.inr (6, [.inr (some (.ref 44)), .inr (some (.ref 45)), .inr (some (.ref 46)), .inr (some (.ref 47)), .inr (some (.ref 48)), .inr (some (.ref 49)), .inl (false, (.ofNat 4, .ofNat 16, [])), .inl (false, (.ofNat 1, .ofNat 4, [])), .inl (false, (.negSucc 2147483647, .ofNat 2147483647, [])), .inl (false, (.negSucc 2147483647, .ofNat 2147483647, [])), .inl (false, (.negSucc 2147483647, .ofNat 2147483647, [])), .inl (false, (.ofNat 0, .ofNat 60, [])), .inl (false, (.ofNat 0, .ofNat 5, [])), .inl (false, (.ofNat 0, .ofNat 4, []))])))), (false, some (.inl (.int, [(4, (.negSucc 2147483647, .ofNat 2147483647, []))]))), (false, some (.inl (.int, [(17, (.negSucc 2147483647, .ofNat 2147483647, []))]))), (false, some (.inl (.int, [(60, (.negSucc 2147483647, .ofNat 2147483647, []))]))), (false, some (.inl (.int, [(5, (.negSucc 2147483647, .ofNat 2147483647, []))]))), (false, some (.inl (.int, [(4, (.negSucc 2147483647, .ofNat 2147483647, []))]))), (false, some (.inl (.int, [(4, (.negSucc 2147483647, .ofNat 2147483647, []))]))), (false, some (.inr (.inl (4, [some 51, some 53, some 55, some 57])))), (false, some (.inr (.inr (4, [.inr (some (.ref 52)), .inl (false, (.negSucc 0, .ofNat 2, [])), .inl (false, (.ofNat 0, .ofNat 40, []))])))), (false, some (.inl (.int, [(40, (.negSucc 2147483647, .ofNat 2147483647, []))]))), (false, some (.inr (.inr (4, [.inr (some (.ref 54)), .inl (false, (.negSucc 0, .ofNat 2, [])), .inl (false, (.ofNat 0, .ofNat 40, []))])))), (false, some (.inl (.int, [(40, (.negSucc 2147483647, .ofNat 2147483647, []))]))), (false, some (.inr (.inr (4, [.inr (some (.ref 56)), .inl (false, (.negSucc 0, .ofNat 2, [])), .inl (false, (.ofNat 0, .ofNat 40, []))])))), (false, some (.inl (.int, [(40, (.negSucc 2147483647, .ofNat 2147483647, []))]))), (false, some (.inr (.inr (4, [.inr (some (.ref 58)), .inl (false, (.negSucc 0, .ofNat 2, [])), .inl (false, (.ofNat 0, .ofNat 40, []))])))), (false, some (.inl (.int, [(40, (.negSucc 2147483647, .ofNat 2147483647, []))]))), (false, some (.inr (.inr (8, [.inr (some (.ref 60)), .inr (some (.ref 61)), .inl (false, (.ofNat 4, .ofNat 16, [(5, .ofNat 0, .ofNat 0)])), .inl (false, (.ofNat 1, .ofNat 4, [(6, .ofNat 0, .ofNat 0)])), .inr (some (.ref 62)), .inr (some (.ref 63)), .inl (false, (.ofNat 0, .ofNat 12, [(2, .ofNat 0, .ofNat 0)])), .inr (some (.ref 64)), .inl (false, (.ofNat 0, .ofNat 16, [])), .inl (false, (.ofNat 0, .ofNat 4, [])), .inr (some (.ref 65)), .inl (false, (.negSucc 2147483647, .ofNat 2147483647, [])), .inl (false, (.ofNat 0, .ofNat 16, [])), .inl (false, (.negSucc 3, .ofNat 3, [])), .inr (some (.ref 66)), .inl (false, (.ofNat 0, .ofNat 400, [(0, .ofNat 0, .ofNat 0)])), .inl (false, (.ofNat 0, .ofNat 400, [])), .inl (false, (.ofNat 0, .ofNat 400, [])), .inl (false, (.ofNat 0, .ofNat 3, [])), .inl (false, (.negSucc 2147483647, .ofNat 2147483647, [])), .inl (false, (.ofNat 0, .ofNat 6, [])), .inl (false, (.ofNat 0, .ofNat 400, [])), .inr (some (.ref 67)), .inl (false, (.ofNat 0, .ofNat 130, [])), .inr (some (.ref 68)), .inr (some (.ref 69)), .inl (false, (.negSucc 2147483647, .ofNat 2147483647, [])), .inr (some (.ref 70)), .inr (some (.ref 71)), .inr (some (.ref 72)), .inr (some (.ref 73)), .inr (some (.ref 74)), .inr (some (.ref 75)), .inl (false, (.ofNat 0, .ofNat 4, [(7, .ofNat 0, .ofNat 0)]))])))), (false, some (.inl (.int, [(1, (.ofNat 0, .ofNat 60, [])), (60, (.ofNat 0, .ofNat 16, [])), (17, (.negSucc 3, .ofNat 3, [])), (1, (.ofNat 0, .ofNat 20, [])), (1, (.ofNat 0, .ofNat 1, [])), (1, (.negSucc 3, .ofNat 2, [])), (1, (.ofNat 0, .ofNat 5, [])), (5, (.ofNat 0, .ofNat 3, [])), (1, (.ofNat 0, .ofNat 4, [])), (8, (.ofNat 0, .ofNat 4, [])), (1, (.ofNat 0, .ofNat 60, [])), (60, (.ofNat 0, .ofNat 16, [])), (17, (.negSucc 3, .ofNat 3, [])), (1, (.ofNat 0, .ofNat 20, [])), (1, (.ofNat 0, .ofNat 1, [])), (1, (.negSucc 3, .ofNat 2, [])), (1, (.ofNat 0, .ofNat 5, [])), (5, (.ofNat 0, .ofNat 3, [])), (1, (.ofNat 0, .ofNat 4, [])), (8, (.ofNat 0, .ofNat 4, [])), (1, (.ofNat 0, .ofNat 60, [])), (60, (.ofNat 0, .ofNat 16, [])), (17, (.negSucc 3, .ofNat 3, [])), (1, (.ofNat 0, .ofNat 20, [])), (1, (.ofNat 0, .ofNat 1, [])), (1, (.negSucc 3, .ofNat 2, [])), (1, (.ofNat 0, .ofNat 5, [])), (5, (.ofNat 0, .ofNat 3, [])), (1, (.ofNat 0, .ofNat 4, [])), (8, (.ofNat 0, .ofNat 4, []))]))), (false, some (.inl (.boolean, [(2, (.ofNat 0, .ofNat 1, []))]))), (false, some (.inl (.int, [(4, (.ofNat 1, .ofNat 9, []))]))), (false, some (.inl (.int, [(12, (.ofNat 0, .ofNat 16, []))]))), (false, some (.inl (.int, [(1, (.ofNat 0, .ofNat 60, [])), (60, (.ofNat 0, .ofNat 16, [])), (17, (.negSucc 3, .ofNat 3, [])), (1, (.ofNat 0, .ofNat 20, [])), (1, (.ofNat 0, .ofNat 1, [])), (1, (.negSucc 3, .ofNat 2, [])), (1, (.ofNat 0, .ofNat 5, [])), (5, (.ofNat 0, .ofNat 3, [])), (1, (.ofNat 0, .ofNat 4, [])), (8, (.ofNat 0, .ofNat 4, []))]))), (false, some (.inl (.int, [(4, (.ofNat 1, .ofNat 9, []))]))), (false, some (.inl (.int, [(400, (.ofNat 0, .ofNat 255, []))]))), (false, some (.inl (.int, [(130, (.negSucc 3, .ofNat 16, []))]))), (false, some (.inl (.int, [(5, (.ofNat 0, .ofNat 3, []))]))), (false, some (.inl (.int, [(5, (.negSucc 3, .ofNat 16, []))]))), (false, some (.inl (.int, [(17, (.negSucc 3, .ofNat 3, []))]))), (false, some (.inl (.int, [(1, (.ofNat 0, .ofNat 128, [])), (1, (.ofNat 0, .ofNat 128, [])), (1, (.ofNat 0, .ofNat 128, [])), (1, (.ofNat 0, .ofNat 128, [])), (1, (.ofNat 0, .ofNat 128, []))]))), (false, some (.inl (.int, [(5, (.ofNat 0, .ofNat 128, []))]))), (false, some (.inl (.int, [(1, (.negSucc 3, .ofNat 2, [])), (1, (.negSucc 3, .ofNat 2, [])), (1, (.negSucc 3, .ofNat 2, [])), (1, (.negSucc 3, .ofNat 2, []))]))), (false, some (.inl (.int, [(1, (.ofNat 0, .ofNat 40, [])), (1, (.ofNat 0, .ofNat 40, [])), (1, (.ofNat 0, .ofNat 40, [])), (1, (.ofNat 0, .ofNat 40, []))]))), (false, some (.inl (.int, [(160, (.negSucc 2147483647, .ofNat 2147483647, []))])))])
def iv_1 : ai_S := ([(.ofNat 0, .ofNat 400), (.ofNat 0, .ofNat 12), (.ofNat 0, .ofNat 12), (.ofNat 4, .ofNat 16), (.ofNat 1, .ofNat 4), (.ofNat 4, .ofNat 16), (.ofNat 1, .ofNat 4), (.ofNat 0, .ofNat 4), (.ofNat 0, .ofNat 4)], [], [], [(false, some (.inr (.inr (7, [.inr (some (.ref 15)), .inr (some (.ref 17)), .inr (some (.ref 21)), .inr (some (.ref 26)), .inr (some (.ref 32)), .inr (some (.ref 35)), .inr (some (.ref 34)), .inr (some (.ref 50)), .inr (some (.ref 33)), .inr (some (.ref 8)), .inr (some (.ref 1)), .inl (false, (.ofNat 0, .ofNat 12, [(1, .ofNat 0, .ofNat 0)])), .inl (false, (.ofNat 0, .ofNat 6, [])), .inl (false, (.ofNat 0, .ofNat 4, [(8, .ofNat 0, .ofNat 0)]))])))), (false, some (.inr (.inr (6, [.inr (some (.ref 2)), .inr (some (.ref 3)), .inr (some (.ref 4)), .inr (some (.ref 5)), .inr (some (.ref 6)), .inr (some (.ref 7)), .inl (false, (.ofNat 4, .ofNat 16, [])), .inl (false, (.ofNat 1, .ofNat 4, [])), .inl (false, (.negSucc 2147483647, .ofNat 2147483647, [])), .inl (false, (.negSucc 2147483647, .ofNat 2147483647, [])), .inl (false, (.negSucc 2147483647, .ofNat 2147483647, [])), .inl (false, (.ofNat 0, .ofNat 60, [])), .inl (false, (.ofNat 0, .ofNat 5, [])), .inl (false, (.ofNat 0, .ofNat 4, []))])))), (false, some (.inl (.int, [(4, (.negSucc 2147483647, .ofNat 2147483647, []))]))), (false, some (.inl (.int, [(17, (.negSucc 2147483647, .ofNat 2147483647, []))]))), (false, some (.inl (.int, [(60, (.negSucc 2147483647, .ofNat 2147483647, []))]))), (false, some (.inl (.int, [(5, (.negSucc 2147483647, .ofNat 2147483647, []))]))), (false, some (.inl (.int, [(4, (.negSucc 2147483647, .ofNat 2147483647, []))]))), (false, some (.inl (.int, [(4, (.negSucc 2147483647, .ofNat 2147483647, []))]))), (false, some (.inr (.inr (6, [.inr (some (.ref 9)), .inr (some (.ref 10)), .inr (some (.ref 11)), .inr (some (.ref 12)), .inr (some (.ref 13)), .inr (some (.ref 14)), .inl (false, (.ofNat 4, .ofNat 16, [(3, .ofNat 0, .ofNat 0)])), .inl (false, (.ofNat 1, .ofNat 4, [(4, .ofNat 0, .ofNat 0)])), .inl (false, (.negSucc 2147483647, .ofNat 2147483647, [])), .inl (false, (.negSucc 2147483647, .ofNat 2147483647, [])), .inl (false, (.negSucc 2147483647, .ofNat 2147483647, [])), .inl (false, (.ofNat 0, .ofNat 60, [])), .inl (false, (.ofNat 0, .ofNat 5, [])), .inl (false, (.ofNat 0, .ofNat 4, []))])))), (false, some (.inl (.int, [(4, (.negSucc 2147483647, .ofNat 2147483647, []))]))), (false, some (.inl (.int, [(17, (.negSucc 2147483647, .ofNat 2147483647, []))]))), (false, some (.inl (.int, [(60, (.negSucc 2147483647, .ofNat 2147483647, []))]))), (false, some (.inl (.int, [(5, (.negSucc 2147483647, .ofNat 2147483647, []))]))), (false, some (.inl (.int, [(4, (.negSucc 2147483647, .ofNat 2147483647, []))]))), (false, some (.inl (.int, [(4, (.negSucc 2147483647, .ofNat 2147483647, []))]))), (false, some (.inr (.inr (5, [.inr (some (.ref 16)), .inl (false, (.ofNat 0, .ofNat 400, [])), .inl (false, (.ofNat 0, .ofNat 6, [])), .inl (false, (.ofNat 0, .ofNat 400, [])), .inr none, .inl (false, (.negSucc 2147483647, .ofNat 2147483647, [])), .inl (false, (.ofNat 0, .ofNat 400, [])), .inl (false, (.ofNat 0, .ofNat 3, [])), .inl (false, (.ofNat 0, .ofNat 400, [])), .inl (false, (.negSucc 2147483647, .ofNat 2147483647, []))])))), (false, some (.inl (.byte, [(400, (.negSucc 127, .ofNat 127, []))]))), (false, some (.inr (.inr (0, [.inr (some (.ref 18)), .inr (some (.ref 19)), .inr (some (.ref 20)), .inr none, .inl (false, (.ofNat 0, .ofNat 128, []))])))), (false, some (.inl (.int, [(128, (.ofNat 0, .ofNat 16, []))]))), (false, some (.inl (.int, [(128, (.negSucc 0, .ofNat 127, []))]))), (false, some (.inl (.int, [(17, (.negSucc 0, .ofNat 127, []))]))), (false, some (.inr (.inr (2, [.inr (some (.ref 17)), .inr (some (.ref 22)), .inr (some (.ref 23)), .inr (some (.ref 24)), .inr (some (.ref 25)), .inl (false, (.ofNat 0, .ofNat 5, [])), .inl (false, (.negSucc 2147483647, .ofNat 2147483647, []))])))), (false, some (.inl (.int, [(5, (.negSucc 2147483647, .ofNat 2147483647, []))]))), (false, some (.inl (.int, [(6, (.negSucc 2147483647, .ofNat 2147483647, []))]))), (false, some (.inl (.int, [(5, (.ofNat 0, .ofNat 16, []))]))), (false, some (.inl (.int, [(5, (.ofNat 0, .ofNat 16, []))]))), (false, some (.inr (.inr (1, [.inr (some (.ref 17)), .inr (some (.ref 27)), .inr (some (.ref 28)), .inr (some (.ref 29)), .inr (some (.ref 30)), .inr (some (.ref 31)), .inl (false, (.ofNat 0, .ofNat 4, [])), .inl (false, (.negSucc 2147483647, .ofNat 2147483647, []))])))), (false, some (.inl (.int, [(4, (.negSucc 2147483647, .ofNat 2147483647, []))]))), (false, some (.inl (.int, [(4, (.ofNat 0, .ofNat 4, []))]))), (false, some (.inl (.int, [(4, (.ofNat 0, .ofNat 16, []))]))), (false, some (.inl (.int, [(4, (.ofNat 0, .ofNat 4, []))]))), (false, some (.inl (.int, [(4, (.ofNat 0, .ofNat 16, []))]))), (false, some (.inr (.inr (3, [.inl (false, (.ofNat 0, .ofNat 16, [])), .inl (false, (.negSucc 2147483647, .ofNat 2147483647, [])), .inl (false, (.negSucc 2147483647, .ofNat 2147483647, [])), .inl (false, (.negSucc 2147483647, .ofNat 2147483647, [])), .inl (false, (.negSucc 2147483647, .ofNat 2147483647, []))])))), (false, some (.inl (.int, [(12, (.ofNat 0, .ofNat 16, []))]))), (false, some (.inl (.boolean, [(2, (.ofNat 0, .ofNat 1, []))]))), (false, some (.inr (.inl (6, [some 36, some 43])))), (false, some (.inr (.inr (6, [.inr (some (.ref 37)), .inr (some (.ref 38)), .inr (some (.ref 39)), .inr (some (.ref 40)), .inr (some (.ref 41)), .inr (some (.ref 42)), .inl (false, (.ofNat 4, .ofNat 16, [])), .inl (false, (.ofNat 1, .ofNat 4, [])), .inl (false, (.negSucc 2147483647, .ofNat 2147483647, [])), .inl (false, (.negSucc 2147483647, .ofNat 2147483647, [])), .inl (false, (.negSucc 2147483647, .ofNat 2147483647, [])), .inl (false, (.ofNat 0, .ofNat 60, [])), .inl (false, (.ofNat 0, .ofNat 5, [])), .inl (false, (.ofNat 0, .ofNat 4, []))])))), (false, some (.inl (.int, [(4, (.negSucc 2147483647, .ofNat 2147483647, []))]))), (false, some (.inl (.int, [(17, (.negSucc 2147483647, .ofNat 2147483647, []))]))), (false, some (.inl (.int, [(60, (.negSucc 2147483647, .ofNat 2147483647, []))]))), (false, some (.inl (.int, [(5, (.negSucc 2147483647, .ofNat 2147483647, []))]))), (false, some (.inl (.int, [(4, (.negSucc 2147483647, .ofNat 2147483647, []))]))), (false, some (.inl (.int, [(4, (.negSucc 2147483647, .ofNat 2147483647, []))]))), (false, some (.inr (.inr (6, [.inr (some (.ref 44)), .inr (some (.ref 45)), .inr (some (.ref 46)), .inr (some (.ref 47)), .inr (some (.ref 48)), .inr (some (.ref 49)), .inl (false, (.ofNat 4, .ofNat 16, [])), .inl (false, (.ofNat 1, .ofNat 4, [])), .inl (false, (.negSucc 2147483647, .ofNat 2147483647, [])), .inl (false, (.negSucc 2147483647, .ofNat 2147483647, [])), .inl (false, (.negSucc 2147483647, .ofNat 2147483647, [])), .inl (false, (.ofNat 0, .ofNat 60, [])), .inl (false, (.ofNat 0, .ofNat 5, [])), .inl (false, (.ofNat 0, .ofNat 4, []))])))), (false, some (.inl (.int, [(4, (.negSucc 2147483647, .ofNat 2147483647, []))]))), (false, some (.inl (.int, [(17, (.negSucc 2147483647, .ofNat 2147483647, []))]))), (false, some (.inl (.int, [(60, (.negSucc 2147483647, .ofNat 2147483647, []))]))), (false, some (.inl (.int, [(5, (.negSucc 2147483647, .ofNat 2147483647, []))]))), (false, some (.inl (.int, [(4, (.negSucc 2147483647, .ofNat 2147483647, []))]))), (false, some (.inl (.int, [(4, (.negSucc 2147483647, .ofNat 2147483647, []))]))), (false, some (.inr (.inl (4, [some 51, some 53, some 55, some 57])))), (false, some (.inr (.inr (4, [.inr (some (.ref 52)), .inl (false, (.negSucc 0, .ofNat 2, [])), .inl (false, (.ofNat 0, .ofNat 40, []))])))), (false, some (.inl (.int, [(40, (.negSucc 2147483647, .ofNat 2147483647, []))]))), (false, some (.inr (.inr (4, [.inr (some (.ref 54)), .inl (false, (.negSucc 0, .ofNat 2, [])), .inl (false, (.ofNat 0, .ofNat 40, []))])))), (false, some (.inl (.int, [(40, (.negSucc 2147483647, .ofNat 2147483647, []))]))), (false, some (.inr (.inr (4, [.inr (some (.ref 56)), .inl (false, (.negSucc 0, .ofNat 2, [])), .inl (false, (.ofNat 0, .ofNat 40, []))])))), (false, some (.inl (.int, [(40, (.negSucc 2147483647, .ofNat 2147483647, []))]))), (false, some (.inr (.inr (4, [.inr (some (.ref 58)), .inl (false, (.negSucc 0, .ofNat 2, [])), .inl (false, (.ofNat 0, .ofNat 40, []))])))), (false, some (.inl (.int, [(40, (.negSucc 2147483647, .ofNat 2147483647, []))]))), (false, some (.inr (.inr (8, [.inr (some (.ref 60)), .inr (some (.ref 61)), .inl (false, (.ofNat 4, .ofNat 16, [(5, .ofNat 0, .ofNat 0)])), .inl (false, (.ofNat 1, .ofNat 4, [(6, .ofNat 0, .ofNat 0)])), .inr (some (.ref 62)), .inr (some (.ref 63)), .inl (false, (.ofNat 0, .ofNat 12, [(2, .ofNat 0, .ofNat 0)])), .inr (some (.ref 64)), .inl (false, (.ofNat 0, .ofNat 16, [])), .inl (false, (.ofNat 0, .ofNat 4, [])), .inr (some (.ref 65)), .inl (false, (.negSucc 2147483647, .ofNat 2147483647, [])), .inl (false, (.ofNat 0, .ofNat 16, [])), .inl (false, (.negSucc 3, .ofNat 3, [])), .inr (some (.ref 66)), .inl (false, (.ofNat 0, .ofNat 400, [(0, .ofNat 0, .ofNat 0)])), .inl (false, (.ofNat 0, .ofNat 400, [])), .inl (false, (.ofNat 0, .ofNat 400, [])), .inl (false, (.ofNat 0, .ofNat 3, [])), .inl (false, (.negSucc 2147483647, .ofNat 2147483647, [])), .inl (false, (.ofNat 0, .ofNat 6, [])), .inl (false, (.ofNat 0, .ofNat 400, [])), .inr (some (.ref 67)), .inl (false, (.ofNat 0, .ofNat 130, [])), .inr (some (.ref 68)), .inr (some (.ref 69)), .inl (false, (.negSucc 2147483647, .ofNat 2147483647, [])), .inr (some (.ref 70)), .inr (some (.ref 71)), .inr (some (.ref 72)), .inr (some (.ref 73)), .inr (some (.ref 74)), .inr (some (.ref 75)), .inl (false, (.ofNat 0, .ofNat 4, [(7, .ofNat 0, .ofNat 0)]))])))), (false, some (.inl (.int, [(1, (.ofNat 0, .ofNat 60, [])), (60, (.ofNat 0, .ofNat 16, [])), (17, (.negSucc 3, .ofNat 3, [])), (1, (.ofNat 0, .ofNat 20, [])), (1, (.ofNat 0, .ofNat 1, [])), (1, (.negSucc 3, .ofNat 2, [])), (1, (.ofNat 0, .ofNat 5, [])), (5, (.ofNat 0, .ofNat 3, [])), (1, (.ofNat 0, .ofNat 4, [])), (8, (.ofNat 0, .ofNat 4, [])), (1, (.ofNat 0, .ofNat 60, [])), (60, (.ofNat 0, .ofNat 16, [])), (17, (.negSucc 3, .ofNat 3, [])), (1, (.ofNat 0, .ofNat 20, [])), (1, (.ofNat 0, .ofNat 1, [])), (1, (.negSucc 3, .ofNat 2, [])), (1, (.ofNat 0, .ofNat 5, [])), (5, (.ofNat 0, .ofNat 3, [])), (1, (.ofNat 0, .ofNat 4, [])), (8, (.ofNat 0, .ofNat 4, [])), (1, (.ofNat 0, .ofNat 60, [])), (60, (.ofNat 0, .ofNat 16, [])), (17, (.negSucc 3, .ofNat 3, [])), (1, (.ofNat 0, .ofNat 20, [])), (1, (.ofNat 0, .ofNat 1, [])), (1, (.negSucc 3, .ofNat 2, [])), (1, (.ofNat 0, .ofNat 5, [])), (5, (.ofNat 0, .ofNat 3, [])), (1, (.ofNat 0, .ofNat 4, [])), (8, (.ofNat 0, .ofNat 4, []))]))), (false, some (.inl (.boolean, [(2, (.ofNat 0, .ofNat 1, []))]))), (false, some (.inl (.int, [(4, (.ofNat 1, .ofNat 9, []))]))), (false, some (.inl (.int, [(12, (.ofNat 0, .ofNat 16, []))]))), (false, some (.inl (.int, [(1, (.ofNat 0, .ofNat 60, [])), (60, (.ofNat 0, .ofNat 16, [])), (17, (.negSucc 3, .ofNat 3, [])), (1, (.ofNat 0, .ofNat 20, [])), (1, (.ofNat 0, .ofNat 1, [])), (1, (.negSucc 3, .ofNat 2, [])), (1, (.ofNat 0, .ofNat 5, [])), (5, (.ofNat 0, .ofNat 3, [])), (1, (.ofNat 0, .ofNat 4, [])), (8, (.ofNat 0, .ofNat 4, []))]))), (false, some (.inl (.int, [(4, (.ofNat 1, .ofNat 9, []))]))), (false, some (.inl (.int, [(400, (.ofNat 0, .ofNat 255, []))]))), (false, some (.inl (.int, [(130, (.negSucc 3, .ofNat 16, []))]))), (false, some (.inl (.int, [(5, (.ofNat 0, .ofNat 3, []))]))), (false, some (.inl (.int, [(5, (.negSucc 3, .ofNat 16, []))]))), (false, some (.inl (.int, [(17, (.negSucc 3, .ofNat 3, []))]))), (false, some (.inl (.int, [(1, (.ofNat 0, .ofNat 128, [])), (1, (.ofNat 0, .ofNat 128, [])), (1, (.ofNat 0, .ofNat 128, [])), (1, (.ofNat 0, .ofNat 128, [])), (1, (.ofNat 0, .ofNat 128, []))]))), (false, some (.inl (.int, [(5, (.ofNat 0, .ofNat 128, []))]))), (false, some (.inl (.int, [(1, (.negSucc 3, .ofNat 2, [])), (1, (.negSucc 3, .ofNat 2, [])), (1, (.negSucc 3, .ofNat 2, [])), (1, (.negSucc 3, .ofNat 2, []))]))), (false, some (.inl (.int, [(1, (.ofNat 0, .ofNat 40, [])), (1, (.ofNat 0, .ofNat 40, [])), (1, (.ofNat 0, .ofNat 40, [])), (1, (.ofNat 0, .ofNat 40, []))]))), (false, some (.inl (.int, [(160, (.negSucc 2147483647, .ofNat 2147483647, []))])))])
def iv_l0 : List ai_L := [.inr (59, 15), .inr (0, 11), .inr (59, 6), .inr (1, 6), .inr (1, 7), .inr (59, 2), .inr (59, 3), .inr (59, 33), .inr (0, 13)]
def iv_l1 : List ai_L := [.inr (59, 15), .inr (0, 11), .inr (59, 6), .inr (8, 6), .inr (8, 7), .inr (59, 2), .inr (59, 3), .inr (59, 33), .inr (0, 13)]
def iv_s : List (ai_S × List ai_L) := [(iv_0, iv_l0), (iv_1, iv_l1)]
def mf_0 : List Nat := [15, 16, 66, 33, 63, 2, 62, 34, 36, 37, 43, 44]
def mft_0 : List Nat := [33, 63, 2, 62, 34, 36, 37, 43, 44]
def mfy_0 : List Nat := [15, 16, 66, 2, 62, 34, 36, 37, 43, 44]
def mfm_0 : List Nat := [15, 16, 66, 33, 63]
def ms_0 : List (ai_L × Nat) := [(.inr (59, 15), 0), (.inr (0, 11), 1), (.inr (59, 6), 2), (.inr (1, 6), 3), (.inr (1, 7), 4), (.inr (59, 2), 5), (.inr (59, 3), 6)]
def mst_0 : List (ai_L × Nat) := [(.inr (0, 11), 1), (.inr (59, 6), 2), (.inr (1, 6), 3), (.inr (1, 7), 4), (.inr (59, 2), 5), (.inr (59, 3), 6)]
def msy_0 : List (ai_L × Nat) := [(.inr (59, 15), 0), (.inr (1, 6), 3), (.inr (1, 7), 4), (.inr (59, 2), 5), (.inr (59, 3), 6)]
def msm_0 : List (ai_L × Nat) := [(.inr (59, 15), 0), (.inr (0, 11), 1), (.inr (59, 6), 2)]
set_option maxRecDepth 1000000 in
theorem ms_ok0 : pr_sy ms_0 iv_0 = true := by decide +kernel
set_option maxRecDepth 1000000 in
theorem mst_ok0 : pr_sy mst_0 iv_0 = true := by decide +kernel
set_option maxRecDepth 1000000 in
theorem msy_ok0 : pr_sy msy_0 iv_0 = true := by decide +kernel
set_option maxRecDepth 1000000 in
theorem msm_ok0 : pr_sy msm_0 iv_0 = true := by decide +kernel
def mf_1 : List Nat := [15, 16, 66, 33, 63, 9, 62, 34, 36, 37, 43, 44]
def mft_1 : List Nat := [33, 63, 9, 62, 34, 36, 37, 43, 44]
def mfy_1 : List Nat := [15, 16, 66, 9, 62, 34, 36, 37, 43, 44]
def mfm_1 : List Nat := [15, 16, 66, 33, 63]
def ms_1 : List (ai_L × Nat) := [(.inr (59, 15), 0), (.inr (0, 11), 1), (.inr (59, 6), 2), (.inr (8, 6), 3), (.inr (8, 7), 4), (.inr (59, 2), 5), (.inr (59, 3), 6)]
def mst_1 : List (ai_L × Nat) := [(.inr (0, 11), 1), (.inr (59, 6), 2), (.inr (8, 6), 3), (.inr (8, 7), 4), (.inr (59, 2), 5), (.inr (59, 3), 6)]
def msy_1 : List (ai_L × Nat) := [(.inr (59, 15), 0), (.inr (8, 6), 3), (.inr (8, 7), 4), (.inr (59, 2), 5), (.inr (59, 3), 6)]
def msm_1 : List (ai_L × Nat) := [(.inr (59, 15), 0), (.inr (0, 11), 1), (.inr (59, 6), 2)]
set_option maxRecDepth 1000000 in
theorem ms_ok1 : pr_sy ms_1 iv_1 = true := by decide +kernel
set_option maxRecDepth 1000000 in
theorem mst_ok1 : pr_sy mst_1 iv_1 = true := by decide +kernel
set_option maxRecDepth 1000000 in
theorem msy_ok1 : pr_sy msy_1 iv_1 = true := by decide +kernel
set_option maxRecDepth 1000000 in
theorem msm_ok1 : pr_sy msm_1 iv_1 = true := by decide +kernel
noncomputable def pr_QS (I : ai_S × List ai_L) (b : Bool) (F : List Nat) (Ls : List (ai_L × Nat)) (S : ai_S) : Bool := pr_Q [I] b F S && pr_sy Ls S
/-- two calls, the cells that they leave, the numbers that they leave -/
theorem pr_goS {X : List Int32} {I : ai_S × List ai_L} {b : Bool} {F : List Nat} {Ls : List (ai_L × Nat)} {Mx Mm : ex_M} {ρ : List Int} {w : ex_W} {vs : List Value} (h : pr_TQ X (pr_QS I b F Ls) Mx Mm ρ w vs) (hs : pr_sy Ls I.1 = true) (H : ai_g ρ w I.1 [] [] w) : ∃ (v1 v2 : Value) (wx wm : ex_W) (gs fs : List Value), (∃ z, ai_nz b v1 = some z) ∧ (∃ z, ai_nz b v2 = some z) ∧ ex_at w 0 = some (.inr (.inr (7, gs))) ∧ ex_at wx 59 = some (.inr (.inr (8, fs))) ∧ Go X 39 Mx (ex_ent Mx (.ref 0 :: vs)) w (some v1, wx) ∧ Go X 39 Mm (ex_ent Mm (.ref 59 :: vs)) wx (some v2, wm) ∧ (∃ ρ', ai_g ρ' wm I.1 [] [] wm) ∧ (∀ p ∈ F, ex_at wm p = ex_at w p) ∧ ∀ q ∈ Ls, cn_look [] wm q.1 = cn_look [] w q.1 := by
  obtain ⟨r1, r2, wx, wm, gs, fs, S2, ρ2, h1, h2, g1, g2, hQ, hp, H2⟩ := h
  unfold pr_QS at hQ
  rw [Bool.and_eq_true] at hQ
  obtain ⟨v1, v2, wx', wm', gs', fs', a1, a2, b1, b2, k1, k2, hI, hF⟩ := pr_goF (X := X) (Is := [I]) (b := b) (F := F) ⟨r1, r2, wx, wm, gs, fs, S2, ρ2, h1, h2, g1, g2, hQ.1, hp, H2⟩
  cases Go.det g1 k1
  cases Go.det g2 k2
  refine ⟨v1, v2, wx, wm, gs', fs', a1, a2, b1, b2, k1, k2, ?_, hF, fun q hq => ?_⟩
  · obtain ⟨J, hJ, ρ', H'⟩ := hI
    obtain rfl := List.mem_singleton.mp hJ
    exact ⟨ρ', H'⟩
  · obtain ⟨z, c1, c2⟩ := pr_sy_g hs H q hq
    obtain ⟨y, d1, d2⟩ := pr_sy_g hQ.2 H2 q hq
    rw [c1, d1]
    obtain ⟨u, rfl⟩ := hp
    have hl : q.2 < ρ.length := (List.getElem?_eq_some_iff.mp c2).1
    rw [List.getElem?_append_left hl] at d2
    exact d2.symm.trans c2
/-- a number at a place -/
def fd (w : ex_W) (p i : Nat) : Option Int := cn_look [] w (.inr (p, i))
section FD
variable {w w' : ex_W} {p i c t : Nat} {fs fs' : List Value} {v : Int32}
theorem fd_obj (h : ex_at w p = some (.inr (.inr (c, fs)))) (hi : ex_at fs i = some (.int v)) : fd w p i = some v.toInt := by
  rw [ex_at_eq] at h hi
  unfold fd cn_look
  simp only [h, hi]
  rfl
theorem fd_eq (i : Nat) (h : ex_at w' p = ex_at w p) : fd w' p i = fd w p i := by
  rw [ex_at_eq, ex_at_eq] at h
  unfold fd cn_look
  simp only [h]
theorem fd_int {z : Int32} (h : ex_at w p = some (.inr (.inr (c, fs)))) (hi : ex_at fs i = some (.int v)) (e : fd w p i = some z.toInt) : v = z := Int32.toInt_inj.mp (Option.some.inj ((fd_obj h hi).symm.trans e))
theorem fd_f (h : ex_at w p = some (.inr (.inr (c, fs)))) (h' : ex_at w' p = some (.inr (.inr (c, fs')))) (e : ex_at fs' i = ex_at fs i) : fd w' p i = fd w p i := by
  rw [ex_at_eq] at h h'
  rw [ex_at_eq, ex_at_eq] at e
  unfold fd cn_look
  simp only [h, h', e]
theorem yrR.sm {gs' fs5' : List Value} {v' : Int32} (h : yrR w) (k0 : ex_at w' 0 = some (.inr (.inr (7, gs')))) (k8 : ex_at gs' 8 = some (.ref 33)) (k11 : ex_at gs' 11 = some (.int v)) (k59 : ex_at w' 59 = some (.inr (.inr (8, fs5')))) (k5 : ex_at fs5' 5 = some (.ref 63)) (k6 : ex_at fs5' 6 = some (.int v')) (e11 : fd w' 0 11 = fd w 0 11) (e6 : fd w' 59 6 = fd w 59 6) (e33 : ex_at w' 33 = ex_at w 33) (e63 : ex_at w' 63 = ex_at w 63) : yrR w' := by
  obtain ⟨gs, fs5, n, l, l', a1, a2, a3, a4, a5, a6, a7, a8, a9⟩ := h
  have r1 : v = nI n := fd_int k0 k11 (e11.trans (fd_obj a1 a3))
  have r2 : v' = nI n := fd_int k59 k6 (e6.trans (fd_obj a4 a6))
  subst r1
  subst r2
  exact ⟨gs', fs5', n, l, l', k0, k8, k11, k59, k5, k6, e33.trans a7, e63.trans a8, a9⟩
theorem yrR.eqs (h : yrR w) (e0 : ex_at w' 0 = ex_at w 0) (e59 : ex_at w' 59 = ex_at w 59) (e33 : ex_at w' 33 = ex_at w 33) (e63 : ex_at w' 63 = ex_at w 63) : yrR w' := by
  obtain ⟨gs, fs5, n, l, l', a1, a2, a3, a4, a5, a6, a7, a8, a9⟩ := h
  exact ⟨gs, fs5, n, l, l', e0.trans a1, a2, a3, e59.trans a4, a5, a6, e33.trans a7, e63.trans a8, a9⟩
theorem tpR.sm {fs5' : List Value} (h : tpR w) (k59 : ex_at w' 59 = some (.inr (.inr (8, fs5')))) (k15 : ex_at fs5' 15 = some (.int v)) (e : fd w' 59 15 = fd w 59 15) (e15 : ex_at w' 15 = ex_at w 15) (e16 : ex_at w' 16 = ex_at w 16) (e66 : ex_at w' 66 = ex_at w 66) : tpR w' := by
  obtain ⟨n, B, T, fs, fs5, a1, a2, a3, a4, a5, a6, a7⟩ := h
  have r : v = nI n := fd_int k59 k15 (e.trans (fd_obj a4 a5))
  subst r
  exact ⟨n, B, T, fs, fs5', e15.trans a1, a2, e16.trans a3, k59, k15, e66.trans a6, a7⟩
theorem tpR.eqs (h : tpR w) (e15 : ex_at w' 15 = ex_at w 15) (e16 : ex_at w' 16 = ex_at w 16) (e59 : ex_at w' 59 = ex_at w 59) (e66 : ex_at w' 66 = ex_at w 66) : tpR w' := by
  obtain ⟨n, B, T, fs, fs5, a1, a2, a3, a4, a5, a6, a7⟩ := h
  exact ⟨n, B, T, fs, fs5, e15.trans a1, a2, e16.trans a3, e59.trans a4, a5, e66.trans a6, a7⟩
/-- an image is kept -/
def kp (w : ex_W) (k : Nat) : Prop := ∃ KE, ex_at w 34 = some (.inl (.boolean, KE)) ∧ ¬ (KE.getD k 0).toInt = 0
/-- most, matters, weights of both; a kept image has told's -/
def mR (w : ex_W) (t : Nat) : Prop := (∃ gs, ex_at w 0 = some (.inr (.inr (7, gs))) ∧ ex_at gs 9 = some (.ref t)) ∧ fd w 59 2 = fd w t 6 ∧ fd w 59 3 = fd w t 7 ∧ (∃ W WE, ex_at w (t + 1) = some (.inl (.int, W)) ∧ ex_at w 62 = some (.inl (.int, WE)) ∧ ∀ i, i < 4 → WE.getD i 0 = W.getD i 0) ∧ ∀ k, k < 2 → kp w k → fd w (36 + 7 * k) 6 = fd w t 6 ∧ fd w (36 + 7 * k) 7 = fd w t 7 ∧ ex_at w (37 + 7 * k) = ex_at w (t + 1)
theorem mR.sm (h : mR w t) (g : ∃ gs, ex_at w' 0 = some (.inr (.inr (7, gs))) ∧ ex_at gs 9 = some (.ref t)) (e6 : fd w' t 6 = fd w t 6) (e7 : fd w' t 7 = fd w t 7) (e2 : fd w' 59 2 = fd w 59 2) (e3 : fd w' 59 3 = fd w 59 3) (c1 : ex_at w' (t + 1) = ex_at w (t + 1)) (c62 : ex_at w' 62 = ex_at w 62) (c34 : ex_at w' 34 = ex_at w 34) (c36 : ex_at w' 36 = ex_at w 36) (c37 : ex_at w' 37 = ex_at w 37) (c43 : ex_at w' 43 = ex_at w 43) (c44 : ex_at w' 44 = ex_at w 44) : mR w' t := by
  obtain ⟨-, h2, h3, ⟨W, WE, h4, h5, h6⟩, h7⟩ := h
  refine ⟨g, (e2.trans h2).trans e6.symm, (e3.trans h3).trans e7.symm, ⟨W, WE, c1.trans h4, c62.trans h5, h6⟩, fun k hk ⟨KE, k1, k2⟩ => ?_⟩
  obtain ⟨m1, m2, m3⟩ := h7 k hk ⟨KE, c34.symm.trans k1, k2⟩
  rcases (show k = 0 ∨ k = 1 by omega) with rfl | rfl
  · exact ⟨((fd_eq 6 c36).trans m1).trans e6.symm, ((fd_eq 7 c36).trans m2).trans e7.symm, (c37.trans m3).trans c1.symm⟩
  · exact ⟨((fd_eq 6 c43).trans m1).trans e6.symm, ((fd_eq 7 c43).trans m2).trans e7.symm, (c44.trans m3).trans c1.symm⟩
theorem yrR.text0 {fs5 g5 N : List Value} (h : yrR w) (h0 : ex_at w 0 = some (.inr (.inr (7, fs)))) (h59 : ex_at w 59 = some (.inr (.inr (8, fs5)))) (e : fs5 = N) (k0 : ex_at w' 0 = some (.inr (.inr (7, ex_put fs 12 (.int v))))) (k59 : ex_at w' 59 = some (.inr (.inr (8, g5)))) (k7 : ∀ i, i < 7 → ex_at g5 i = ex_at N i) (e33 : ex_at w' 33 = ex_at w 33) (e63 : ex_at w' 63 = ex_at w 63) : yrR w' := by
  subst e
  obtain ⟨gs, gs5, n, l, l', a1, a2, a3, a4, a5, a6, a7, a8, a9⟩ := h
  obtain rfl := at_obj h0 a1
  obtain rfl := at_obj h59 a4
  exact ⟨_, g5, n, l, l', k0, vg_at_o rfl a2, vg_at_o rfl a3, k59, (k7 5 (by decide)).trans a5, (k7 6 (by decide)).trans a6, e33.trans a7, e63.trans a8, a9⟩
theorem mR.text0 {fs5 g5 N : List Value} (h : mR w t) (h0 : ex_at w 0 = some (.inr (.inr (7, fs)))) (h59 : ex_at w 59 = some (.inr (.inr (8, fs5)))) (e : fs5 = N) (g9 : ex_at fs 9 = some (.ref t)) (k0 : ex_at w' 0 = some (.inr (.inr (7, ex_put fs 12 (.int v))))) (k59 : ex_at w' 59 = some (.inr (.inr (8, g5)))) (k7 : ∀ i, i < 7 → ex_at g5 i = ex_at N i) (kF : ∀ q, (q = t ∨ q = t + 1 ∨ q = 62 ∨ q = 34 ∨ q = 36 ∨ q = 37 ∨ q = 43 ∨ q = 44) → ex_at w' q = ex_at w q) : mR w' t := by
  subst e
  exact h.sm ⟨_, k0, vg_at_o rfl g9⟩ (fd_eq 6 (kF t (by omega))) (fd_eq 7 (kF t (by omega))) (fd_f h59 k59 (k7 2 (by decide))) (fd_f h59 k59 (k7 3 (by decide))) (kF (t + 1) (by omega)) (kF 62 (by omega)) (kF 34 (by omega)) (kF 36 (by omega)) (kF 37 (by omega)) (kF 43 (by omega)) (kF 44 (by omega))
theorem yrR.text1 {dr : Nat} {g5 : List Value} (h : yrR w) (h0 : ex_at w 0 = some (.inr (.inr (7, fs)))) (f8 : ex_at fs 8 = some (.ref 33)) (k0 : ex_at w' 0 = some (.inr (.inr (7, ex_put (ex_put (ex_put (ex_put fs 12 (.int 0)) 9 (.ref dr)) 10 (.ref t)) 11 (.int 0))))) (k59 : ex_at w' 59 = some (.inr (.inr (8, g5)))) (k5 : ex_at g5 5 = some (.ref 63)) (k6 : ex_at g5 6 = some (.int 0)) (e33 : ex_at w' 33 = ex_at w 33) (e63 : ex_at w' 63 = ex_at w 63) : yrR w' := by
  obtain ⟨gs, gs5, n, l, l', a1, a2, a3, a4, a5, a6, a7, a8, a9, a10, a11, a12⟩ := h
  obtain rfl := at_obj h0 a1
  exact ⟨_, g5, 0, l, l', k0, vg_at_o rfl (vg_at_o rfl (vg_at_o rfl (vg_at_o rfl f8))), by rw [nI_0]; exact vg_at_put (vg_at_o rfl (vg_at_o rfl (vg_at_o rfl a3))), k59, k5, by rw [nI_0]; exact k6, e33.trans a7, e63.trans a8, Nat.zero_le _, a10, a11, fun i hi => absurd hi (Nat.not_lt_zero i)⟩
theorem mR_text1 {tf : Nat → Int32} {ta : Nat → List Int32} {ST WE KX : List Int32} {dn an wn : Nat} (kS : stR w t tf ta ST WE dn an wn) (k34 : ex_at w 34 = some (.inl (.boolean, KX))) (kz : ∀ k, k < 2 → KX.getD k 0 = 0) : mR w t := by
  obtain ⟨t0, t6, ⟨gs, h0, g9⟩, hT, ⟨fs5, h59, f0, f2, f3, f4⟩, h60, h62, hR⟩ := kS
  refine ⟨⟨gs, h0, g9⟩, (fd_obj h59 f2).trans (fd_obj (i := 6) hT.1 rfl).symm, (fd_obj h59 f3).trans (fd_obj (i := 7) hT.1 rfl).symm, ⟨ta 0, WE, hT.2 0 (by decide), h62, hR.2.2.1⟩, fun k hk ⟨KE, a, b⟩ => ?_⟩
  obtain rfl := at_arr a k34
  rw [kz k hk] at b
  exact absurd (by decide) b
theorem mR_keep {wm : ex_W} {k : Nat} {tf : Nat → Int32} {ta : Nat → List Int32} {KE : List Int32} (h : mR w t) (e0 : ex_at wm 0 = ex_at w 0) (et : ex_at wm t = ex_at w t) (et1 : ex_at wm (t + 1) = ex_at w (t + 1)) (e59 : ex_at wm 59 = ex_at w 59) (e62 : ex_at wm 62 = ex_at w 62) (hT : tA w t tf ta) (hA : tA wm (36 + 7 * k) tf ta) (h34 : ex_at w 34 = some (.inl (.boolean, KE))) (k34 : ex_at wm 34 = some (.inl (.boolean, ex_put KE k 1))) (eo : ∀ j, j < 2 → j ≠ k → ex_at wm (36 + 7 * j) = ex_at w (36 + 7 * j) ∧ ex_at wm (37 + 7 * j) = ex_at w (37 + 7 * j)) : mR wm t := by
  obtain ⟨⟨gs, g1, g2⟩, h2, h3, ⟨W, WE, h4, h5, h6⟩, h7⟩ := h
  refine ⟨⟨gs, e0.trans g1, g2⟩, ((fd_eq 2 e59).trans h2).trans (fd_eq 6 et).symm, ((fd_eq 3 e59).trans h3).trans (fd_eq 7 et).symm, ⟨W, WE, et1.trans h4, e62.trans h5, h6⟩, fun j hj ⟨KE', k1, k2⟩ => ?_⟩
  by_cases e : j = k
  · subst e
    refine ⟨(fd_obj (i := 6) hA.1 rfl).trans ((fd_eq 6 et).trans (fd_obj (i := 6) hT.1 rfl)).symm, (fd_obj (i := 7) hA.1 rfl).trans ((fd_eq 7 et).trans (fd_obj (i := 7) hT.1 rfl)).symm, ?_⟩
    have hj0 := hA.2 0 (by decide)
    rw [show 36 + 7 * j + 1 + 0 = 37 + 7 * j by omega] at hj0
    exact hj0.trans ((hT.2 0 (by decide)).symm.trans et1.symm)
  · obtain ⟨o1, o2⟩ := eo j hj e
    obtain rfl := at_arr k1 k34
    rw [rl_w e] at k2
    obtain ⟨m1, m2, m3⟩ := h7 j hj ⟨KE, h34, k2⟩
    exact ⟨((fd_eq 6 o1).trans m1).trans (fd_eq 6 et).symm, ((fd_eq 7 o1).trans m2).trans (fd_eq 7 et).symm, (o2.trans m3).trans et1.symm⟩
theorem mR_back {wm : ex_W} {k : Nat} {tfp : Nat → Int32} {tap : Nat → List Int32} (hk : k < 2) (h : mR w t) (hkp : kp w k) (hp : tA w (36 + 7 * k) tfp tap) (ht : tA wm t tfp tap) (e0 : ex_at wm 0 = ex_at w 0) (e59 : ex_at wm 59 = ex_at w 59) (e62 : ex_at wm 62 = ex_at w 62) (e34 : ex_at wm 34 = ex_at w 34) (e36 : ex_at wm 36 = ex_at w 36) (e37 : ex_at wm 37 = ex_at w 37) (e43 : ex_at wm 43 = ex_at w 43) (e44 : ex_at wm 44 = ex_at w 44) : mR wm t := by
  obtain ⟨⟨gs, g1, g2⟩, h2, h3, ⟨W, WE, h4, h5, h6⟩, h7⟩ := id h
  obtain ⟨m1, m2, m3⟩ := h7 k hk hkp
  have hj0 := hp.2 0 (by decide)
  rw [show 36 + 7 * k + 1 + 0 = 37 + 7 * k by omega] at hj0
  exact h.sm ⟨gs, e0.trans g1, g2⟩ (((fd_obj (i := 6) ht.1 rfl).trans (fd_obj (i := 6) hp.1 rfl).symm).trans m1) (((fd_obj (i := 7) ht.1 rfl).trans (fd_obj (i := 7) hp.1 rfl).symm).trans m2) (fd_eq 2 e59) (fd_eq 3 e59) ((ht.2 0 (by decide)).trans (hj0.symm.trans m3)) e62 e34 e36 e37 e43 e44
theorem mR.eqs (h : mR w t) (ht : t + 1 < 15) (e : ∀ q, q < 60 → ex_at w' q = ex_at w q) (e62 : ex_at w' 62 = ex_at w 62) : mR w' t := by
  obtain ⟨gs, g1, g2⟩ := h.1
  exact h.sm ⟨gs, (e 0 (by omega)).trans g1, g2⟩ (fd_eq 6 (e t (by omega))) (fd_eq 7 (e t (by omega))) (fd_eq 2 (e 59 (by omega))) (fd_eq 3 (e 59 (by omega))) (e (t + 1) (by omega)) e62 (e 34 (by omega)) (e 36 (by omega)) (e 37 (by omega)) (e 43 (by omega)) (e 44 (by omega))
end FD
section KB
variable {w : ex_W} {t : Nat} {gs fs5 : List Value} {tf tf0 tf1 : Nat → Int32} {ta ta0 ta1 : Nat → List Int32} {KE KM ST : List Int32} {x : Int32}
theorem kp_go (ht8 : t = 1 ∨ t = 8) (h0 : ex_at w 0 = some (.inr (.inr (7, gs)))) (g5 : ex_at gs 5 = some (.ref 35)) (g6 : ex_at gs 6 = some (.ref 34)) (g9 : ex_at gs 9 = some (.ref t)) (h34 : ex_at w 34 = some (.inl (.boolean, KE))) (lk : KE.length = 2) (h35 : ex_at w 35 = some (.inr (.inl (6, [some 36, some 43])))) (hT : tA w t tf ta) (lT : tL ta) (hI0 : tA w 36 tf0 ta0) (l0 : tL ta0) (hI1 : tA w 43 tf1 ta1) (l1 : tL ta1) (h59 : ex_at w 59 = some (.inr (.inr (8, fs5)))) (f0 : ex_at fs5 0 = some (.ref 60)) (f1 : ex_at fs5 1 = some (.ref 61)) (h60 : ex_at w 60 = some (.inl (.int, ST))) (ls : ST.length = 288) (h61 : ex_at w 61 = some (.inl (.boolean, KM))) (lm : KM.length = 2) (hb : ∀ k, k < 2 → (KM.getD k 0).toInt = 0 ∨ (KM.getD k 0).toInt = 1) (hP : tpR w) (hY : yrR w) (hM : mR w t) : ∃ r r' wx wm, Go [] 39 mt_69 (ex_ent mt_69 [.ref 0, .int x]) w (some (.int r), wx) ∧ Go [] 39 mt_70 (ex_ent mt_70 [.ref 59, .int x]) wx (some (.int r'), wm) ∧ tpR wm ∧ yrR wm ∧ mR wm t := by
  by_cases c1 : x.toInt < 0
  · exact ⟨_, _, w, w, ikeep_1 c1, jkeep_1 (sin_f rfl (l := 0) (h := 1) (by decide) (by decide) (by omega)), hP, hY, hM⟩
  · by_cases c2 : x.toInt ≥ 2
    · exact ⟨_, _, w, w, ikeep_2 (by omega) c2, jkeep_1 (sin_f rfl (l := 0) (h := 1) (by decide) (by decide) (by omega)), hP, hY, hM⟩
    · by_cases c3 : x.toInt = 0
      · obtain rfl : x = 0 := Int32.toInt_inj.mp (c3.trans (by decide))
        obtain ⟨r, wx, k1, -, k2, k3, k4⟩ := ik_0 (X := []) (d := 38) ht8 h0 g5 g6 g9 h34 lk h35 hI0 hT l0 lT
        obtain ⟨r', wm, ST', j1, -, -, -, -, -, j2⟩ := jk_0 (X := []) (d := 38) ((k4 59 (by omega) (by omega)).trans h59) f0 f1 ((k4 60 (by omega) (by omega)).trans h60) ls ((k4 61 (by omega) (by omega)).trans h61) lm (hb 0 (by omega))
        have F : ∀ q, q ≠ 34 → ¬ (36 ≤ q ∧ q ≤ 36 + 6) → q ≠ 60 → q ≠ 61 → ex_at wm q = ex_at w q := fun q a b c e => (j2 q c e).trans (k4 q a b)
        refine ⟨r, r', wx, wm, k1, j1, hP.eqs (F 15 (by omega) (by omega) (by omega) (by omega)) (F 16 (by omega) (by omega) (by omega) (by omega)) (F 59 (by omega) (by omega) (by omega) (by omega)) (F 66 (by omega) (by omega) (by omega) (by omega)), hY.eqs (F 0 (by omega) (by omega) (by omega) (by omega)) (F 59 (by omega) (by omega) (by omega) (by omega)) (F 33 (by omega) (by omega) (by omega) (by omega)) (F 63 (by omega) (by omega) (by omega) (by omega)), mR_keep (k := 0) hM (F 0 (by omega) (by omega) (by omega) (by omega)) (F t (by omega) (by omega) (by omega) (by omega)) (F (t + 1) (by omega) (by omega) (by omega) (by omega)) (F 59 (by omega) (by omega) (by omega) (by omega)) (F 62 (by omega) (by omega) (by omega) (by omega)) hT (k2.off (fun q a b => j2 q (by omega) (by omega))) h34 ((j2 34 (by omega) (by omega)).trans k3) (fun j a b => ⟨F _ (by omega) (by omega) (by omega) (by omega), F _ (by omega) (by omega) (by omega) (by omega)⟩)⟩
      · obtain rfl : x = 1 := Int32.toInt_inj.mp ((show x.toInt = 1 by omega).trans (by decide))
        obtain ⟨r, wx, k1, -, k2, k3, k4⟩ := ik_1 (X := []) (d := 38) ht8 h0 g5 g6 g9 h34 lk h35 hI1 hT l1 lT
        obtain ⟨r', wm, ST', j1, -, -, -, -, -, j2⟩ := jk_1 (X := []) (d := 38) ((k4 59 (by omega) (by omega)).trans h59) f0 f1 ((k4 60 (by omega) (by omega)).trans h60) ls ((k4 61 (by omega) (by omega)).trans h61) lm (hb 1 (by omega))
        have F : ∀ q, q ≠ 34 → ¬ (43 ≤ q ∧ q ≤ 43 + 6) → q ≠ 60 → q ≠ 61 → ex_at wm q = ex_at w q := fun q a b c e => (j2 q c e).trans (k4 q a b)
        refine ⟨r, r', wx, wm, k1, j1, hP.eqs (F 15 (by omega) (by omega) (by omega) (by omega)) (F 16 (by omega) (by omega) (by omega) (by omega)) (F 59 (by omega) (by omega) (by omega) (by omega)) (F 66 (by omega) (by omega) (by omega) (by omega)), hY.eqs (F 0 (by omega) (by omega) (by omega) (by omega)) (F 59 (by omega) (by omega) (by omega) (by omega)) (F 33 (by omega) (by omega) (by omega) (by omega)) (F 63 (by omega) (by omega) (by omega) (by omega)), mR_keep (k := 1) hM (F 0 (by omega) (by omega) (by omega) (by omega)) (F t (by omega) (by omega) (by omega) (by omega)) (F (t + 1) (by omega) (by omega) (by omega) (by omega)) (F 59 (by omega) (by omega) (by omega) (by omega)) (F 62 (by omega) (by omega) (by omega) (by omega)) hT (k2.off (fun q a b => j2 q (by omega) (by omega))) h34 ((j2 34 (by omega) (by omega)).trans k3) (fun j a b => ⟨F _ (by omega) (by omega) (by omega) (by omega), F _ (by omega) (by omega) (by omega) (by omega)⟩)⟩
theorem bk_go (ht8 : t = 1 ∨ t = 8) (h0 : ex_at w 0 = some (.inr (.inr (7, gs)))) (g5 : ex_at gs 5 = some (.ref 35)) (g6 : ex_at gs 6 = some (.ref 34)) (g9 : ex_at gs 9 = some (.ref t)) (h34 : ex_at w 34 = some (.inl (.boolean, KE))) (lk : KE.length = 2) (h35 : ex_at w 35 = some (.inr (.inl (6, [some 36, some 43])))) (hT : tA w t tf ta) (lT : tL ta) (hI0 : tA w 36 tf0 ta0) (l0 : tL ta0) (hI1 : tA w 43 tf1 ta1) (l1 : tL ta1) (h59 : ex_at w 59 = some (.inr (.inr (8, fs5)))) (f0 : ex_at fs5 0 = some (.ref 60)) (f1 : ex_at fs5 1 = some (.ref 61)) (h60 : ex_at w 60 = some (.inl (.int, ST))) (ls : ST.length = 288) (h61 : ex_at w 61 = some (.inl (.boolean, KM))) (lm : KM.length = 2) (hP : tpR w) (hY : yrR w) (hM : mR w t) : ∃ r r' wx wm, Go [] 39 mt_71 (ex_ent mt_71 [.ref 0, .int x]) w (some (.int r), wx) ∧ Go [] 39 mt_72 (ex_ent mt_72 [.ref 59, .int x]) wx (some (.int r'), wm) ∧ tpR wm ∧ yrR wm ∧ mR wm t := by
  have put60 : ∀ (w1 : ex_W) (c : ex_E) (q : Nat), q ≠ 60 → ex_at (ex_put w1 60 c) q = ex_at w1 q := fun w1 c q hq => vg_at_ne (sh_beq (fun e => hq e.symm))
  have fin : ∀ w1 wm : ex_W, (∀ q, q ≠ 60 → ex_at wm q = ex_at w1 q) → tpR w1 → yrR w1 → mR w1 t → tpR wm ∧ yrR wm ∧ mR wm t := fun w1 wm e a b c => ⟨a.eqs (e 15 (by omega)) (e 16 (by omega)) (e 59 (by omega)) (e 66 (by omega)), b.eqs (e 0 (by omega)) (e 59 (by omega)) (e 33 (by omega)) (e 63 (by omega)), c.eqs (by omega) (fun q hq => e q (by omega)) (e 62 (by omega))⟩
  by_cases c1 : x.toInt < 0
  · exact ⟨_, _, w, w, iback_1 c1, jback_1 (sin_f rfl (l := 0) (h := 1) (by decide) (by decide) (by omega)), hP, hY, hM⟩
  · by_cases c2 : x.toInt ≥ 2
    · exact ⟨_, _, w, w, iback_2 (by omega) c2, jback_1 (sin_f rfl (l := 0) (h := 1) (by decide) (by decide) (by omega)), hP, hY, hM⟩
    · by_cases c3 : x.toInt = 0
      · obtain rfl : x = 0 := Int32.toInt_inj.mp (c3.trans (by decide))
        rcases ib_0 (X := []) (d := 38) ht8 h0 g5 g6 g9 h34 lk h35 hI0 hT l0 lT with ⟨-, k1⟩ | ⟨kk, wx, k1, k2, k3⟩
        · rcases jb_0 (X := []) (d := 38) h59 f0 f1 h60 ls h61 lm with ⟨-, j1⟩ | ⟨-, ST', j1, -, -⟩
          · exact ⟨_, _, w, w, k1, j1, hP, hY, hM⟩
          · exact ⟨_, _, w, _, k1, j1, fin w _ (put60 w _) hP hY hM⟩
        · have hP' : tpR wx := hP.eqs (k3 15 (by omega)) (k3 16 (by omega)) (k3 59 (by omega)) (k3 66 (by omega))
          have hY' : yrR wx := hY.eqs (k3 0 (by omega)) (k3 59 (by omega)) (k3 33 (by omega)) (k3 63 (by omega))
          have hM' : mR wx t := mR_back (k := 0) (by omega) hM ⟨KE, h34, kk⟩ hI0 k2 (k3 0 (by omega)) (k3 59 (by omega)) (k3 62 (by omega)) (k3 34 (by omega)) (k3 36 (by omega)) (k3 37 (by omega)) (k3 43 (by omega)) (k3 44 (by omega))
          rcases jb_0 (X := []) (d := 38) ((k3 59 (by omega)).trans h59) f0 f1 ((k3 60 (by omega)).trans h60) ls ((k3 61 (by omega)).trans h61) lm with ⟨-, j1⟩ | ⟨-, ST', j1, -, -⟩
          · exact ⟨_, _, wx, wx, k1, j1, hP', hY', hM'⟩
          · exact ⟨_, _, wx, _, k1, j1, fin wx _ (put60 wx _) hP' hY' hM'⟩
      · obtain rfl : x = 1 := Int32.toInt_inj.mp ((show x.toInt = 1 by omega).trans (by decide))
        rcases ib_1 (X := []) (d := 38) ht8 h0 g5 g6 g9 h34 lk h35 hI1 hT l1 lT with ⟨-, k1⟩ | ⟨kk, wx, k1, k2, k3⟩
        · rcases jb_1 (X := []) (d := 38) h59 f0 f1 h60 ls h61 lm with ⟨-, j1⟩ | ⟨-, ST', j1, -, -⟩
          · exact ⟨_, _, w, w, k1, j1, hP, hY, hM⟩
          · exact ⟨_, _, w, _, k1, j1, fin w _ (put60 w _) hP hY hM⟩
        · have hP' : tpR wx := hP.eqs (k3 15 (by omega)) (k3 16 (by omega)) (k3 59 (by omega)) (k3 66 (by omega))
          have hY' : yrR wx := hY.eqs (k3 0 (by omega)) (k3 59 (by omega)) (k3 33 (by omega)) (k3 63 (by omega))
          have hM' : mR wx t := mR_back (k := 1) (by omega) hM ⟨KE, h34, kk⟩ hI1 k2 (k3 0 (by omega)) (k3 59 (by omega)) (k3 62 (by omega)) (k3 34 (by omega)) (k3 36 (by omega)) (k3 37 (by omega)) (k3 43 (by omega)) (k3 44 (by omega))
          rcases jb_1 (X := []) (d := 38) ((k3 59 (by omega)).trans h59) f0 f1 ((k3 60 (by omega)).trans h60) ls ((k3 61 (by omega)).trans h61) lm with ⟨-, j1⟩ | ⟨-, ST', j1, -, -⟩
          · exact ⟨_, _, wx, wx, k1, j1, hP', hY', hM'⟩
          · exact ⟨_, _, wx, _, k1, j1, fin wx _ (put60 wx _) hP' hY' hM'⟩
/-- weight of both -/
theorem mw_weight {X : List Int32} {d : Nat} {W WE : List Int32} (h0 : ex_at w 0 = some (.inr (.inr (7, gs)))) (g9 : ex_at gs 9 = some (.ref t)) (hT1 : ex_at w t = some (dT t tf)) (hW1 : ex_at w (t + 1) = some (.inl (.int, W))) (l0 : W.length = 4) (h59 : ex_at w 59 = some (.inr (.inr (8, fs5)))) (f3 : ex_at fs5 3 = some (.int (tf 1))) (f4 : ex_at fs5 4 = some (.ref 62)) (h62 : ex_at w 62 = some (.inl (.int, WE))) (l7 : WE.length = 4) (s17 : 1 ≤ (tf 1).toInt) (s18 : (tf 1).toInt ≤ 4) (hW : ∀ i, i < 4 → WE.getD i 0 = W.getD i 0) : ∃ r, Go X (d + 2) mt_15 (ex_ent mt_15 [.ref 0, .int x]) w (some (.int r), w) ∧ Go X (d + 2) mt_16 (ex_ent mt_16 [.ref 59, .int x]) w (some (.int r), w) := by
  rcases sc_mat (X := X) (d := d + 1) (x := x) hT1 s18 with ⟨c1, g1⟩ | ⟨c1, g1⟩
  · have ex : x = nI x.toInt.toNat := tI_nI (by omega) (by omega)
    have ec : Int32.toNatClampNeg x = x.toInt.toNat := by rw [ex, nI_clamp (by omega), ← ex]
    have gx := sweight_1 (X := X) (d := d + 1) h0 g9 hT1 hW1 g1 (by rw [ex, l0]; exact fp_ix (by omega) (by decide))
    have gm := uweight_1 (X := X) (d := d + 1) h59 f4 h62 ((su_mat h59 f3 s17 s18).1 c1) (by rw [ex, l7]; exact fp_ix (by omega) (by decide))
    rw [ec, ex_gd_eq] at gx
    rw [ec, ex_gd_eq, hW x.toInt.toNat (by omega)] at gm
    exact ⟨_, gx, gm⟩
  · exact ⟨_, sweight_0 h0 g9 hT1 g1, uweight_0 h59 ((su_mat h59 f3 s17 s18).2 c1)⟩
end KB
def mv_I (w : ex_W) : Prop := pr_I iv_s w ∧ tpR w ∧ yrR w ∧ ∃ t, mR w t
/-- end -/
theorem en_both {w : ex_W} {x : Int32} {gs : List Value} (h0 : ex_at w 0 = some (.inr (.inr (7, gs)))) (g0 : ex_at gs 0 = some (.ref 15)) (h : tpR w) : ∃ r wx wm, Go [] 39 mt_5 (ex_ent mt_5 [.ref 0, .int x]) w (some (.int r), wx) ∧ Go [] 39 mt_6 (ex_ent mt_6 [.ref 59, .int x]) wx (some (.int r), wm) ∧ tpR wm := by
  obtain ⟨n, B, T, fs, fs5, a1, a2, a3, a4, a5, a6, a7, a8, a9, a10⟩ := id h
  have en : (nI n).toInt = (n : Int) := nI_toInt (by omega)
  by_cases c1 : x.toInt < 0
  · exact ⟨_, w, w, ve_c1 h0 g0 a1 a2 (kq_lt_t c1), ve_m1 (d := 38) a4 a5 (vin_f (by rw [e64_0, Int32.toInt_toInt64]; omega)) (by decide), h⟩
  · by_cases c2 : x.toInt ≤ (nI n).toInt
    · have ex : x = nI x.toInt.toNat := tI_nI (by omega) (by omega)
      refine ⟨_, _, _, ve_c3 h0 g0 a1 a2 (kq_lt_f (by omega)) (kp_le_t c2), ve_m2 (d := 38) (vg_at_o rfl a4) a5 (vin_t (by rw [e64_0, Int32.toInt_toInt64]; omega) (by rw [Int32.toInt_toInt64, Int32.toInt_toInt64]; omega)) (by decide), x.toInt.toNat, B, T, _, _, vg_at_o rfl (vg_at_put a1), by rw [← ex]; exact vg_at_put a2, vg_at_o rfl (vg_at_o rfl a3), vg_at_put (vg_at_o rfl a4), by rw [← ex]; exact vg_at_put a5, vg_at_o rfl (vg_at_o rfl a6), by omega, a8, a9, fun i hi => a10 i (by omega)⟩
    · exact ⟨_, w, w, ve_c2 h0 g0 a1 a2 (kq_lt_f (by omega)) (kp_le_f (by omega)), ve_m1 (d := 38) a4 a5 (vin_f (by rw [e64_0, Int32.toInt_toInt64, Int32.toInt_toInt64]; omega)) (by decide), h⟩

section C0
variable {ρ ρ' : List Int} {w w' : ex_W}
theorem pa0_0 (H : ai_g ρ w iv_0 [] [] w) : ∃ gs, ex_at w 0 = some (.inr (.inr (7, gs))) ∧ ex_at gs 0 = some (.ref 15) ∧ ex_at gs 5 = some (.ref 35) ∧ ex_at gs 6 = some (.ref 34) ∧ ex_at gs 8 = some (.ref 33) ∧ ex_at gs 9 = some (.ref 1) ∧ ∃ v, ex_at gs 11 = some (.int v) := by
  obtain ⟨gs, h0, G⟩ := fp_o (U := iv_0.2.2.2) (p := 0) (c := 7) H.2.2.2 rfl
  obtain ⟨v, hv, -⟩ := gI G (k := 11) rfl
  exact ⟨gs, h0, gR G (k := 0) rfl, gR G (k := 5) rfl, gR G (k := 6) rfl, gR G (k := 8) rfl, gR G (k := 9) rfl, v, hv⟩
theorem pa59_0 (H : ai_g ρ w iv_0 [] [] w) : ∃ fs5, ex_at w 59 = some (.inr (.inr (8, fs5))) ∧ ex_at fs5 0 = some (.ref 60) ∧ ex_at fs5 1 = some (.ref 61) ∧ ex_at fs5 4 = some (.ref 62) ∧ ex_at fs5 5 = some (.ref 63) ∧ (∃ v, ex_at fs5 2 = some (.int v)) ∧ (∃ v, ex_at fs5 3 = some (.int v)) ∧ (∃ v, ex_at fs5 6 = some (.int v)) ∧ ∃ v, ex_at fs5 15 = some (.int v) := by
  obtain ⟨gs, h0, G⟩ := fp_o (U := iv_0.2.2.2) (p := 59) (c := 8) H.2.2.2 rfl
  obtain ⟨v2, e2, -⟩ := gI G (k := 2) rfl
  obtain ⟨v3, e3, -⟩ := gI G (k := 3) rfl
  obtain ⟨v6, e6, -⟩ := gI G (k := 6) rfl
  obtain ⟨v15, e15, -⟩ := gI G (k := 15) rfl
  exact ⟨gs, h0, gR G (k := 0) rfl, gR G (k := 1) rfl, gR G (k := 4) rfl, gR G (k := 5) rfl, ⟨v2, e2⟩, ⟨v3, e3⟩, ⟨v6, e6⟩, v15, e15⟩
theorem paT_0 (H : ai_g ρ w iv_0 [] [] w) : ∃ tf ta, tA w 1 tf ta ∧ tL ta ∧ (4 ≤ (tf 0).toInt ∧ (tf 0).toInt ≤ 16) ∧ (1 ≤ (tf 1).toInt ∧ (tf 1).toInt ≤ 4) := tA_of (p := 1) (U := iv_0.2.2.2) H.2.2.2 rfl rfl rfl rfl rfl rfl rfl rfl rfl rfl rfl rfl rfl
theorem paI_0 (H : ai_g ρ w iv_0 [] [] w) : ∃ tf ta, tA w 36 tf ta ∧ tL ta := by
  obtain ⟨tf, ta, h1, h2, -⟩ := tA_of (p := 36) (U := iv_0.2.2.2) H.2.2.2 rfl rfl rfl rfl rfl rfl rfl rfl rfl rfl rfl rfl rfl
  exact ⟨tf, ta, h1, h2⟩
theorem paJ_0 (H : ai_g ρ w iv_0 [] [] w) : ∃ tf ta, tA w 43 tf ta ∧ tL ta := by
  obtain ⟨tf, ta, h1, h2, -⟩ := tA_of (p := 43) (U := iv_0.2.2.2) H.2.2.2 rfl rfl rfl rfl rfl rfl rfl rfl rfl rfl rfl rfl rfl
  exact ⟨tf, ta, h1, h2⟩
theorem pa35_0 (H : ai_g ρ w iv_0 [] [] w) : ex_at w 35 = some (.inr (.inl (6, [some 36, some 43]))) := by
  obtain ⟨x, h1, -, h3⟩ := H.2.2.2.2.2 35 (false, some (.inr (.inl (6, [some 36, some 43])))) rfl
  have hx := (h3 _ rfl).row
  rw [hx] at h1
  rw [ex_at_eq]
  exact h1
theorem pa61_0 (H : ai_g ρ w iv_0 [] [] w) : ∃ KM, ex_at w 61 = some (.inl (.boolean, KM)) ∧ KM.length = 2 ∧ ∀ k, k < 2 → (KM.getD k 0).toInt = 0 ∨ (KM.getD k 0).toInt = 1 := by
  obtain ⟨l, h1, h2⟩ := fp_r (U := iv_0.2.2.2) (p := 61) (ty := .boolean) H.2.2.2 rfl
  refine ⟨l, h1, h2.len, fun k hk => ?_⟩
  obtain ⟨h3, h4, h5, -⟩ := fp_rd h2 hk
  have h4 : (0 : Int) ≤ (l.getD k 0).toInt := h4
  have h5 : (l.getD k 0).toInt ≤ (1 : Int) := h5
  omega
theorem up_t0 (H' : ai_g ρ' w' iv_0 [] [] w') (h : tpR w) (e : fd w' 59 15 = fd w 59 15) (e15 : ex_at w' 15 = ex_at w 15) (e16 : ex_at w' 16 = ex_at w 16) (e66 : ex_at w' 66 = ex_at w 66) : tpR w' := by
  obtain ⟨fs5, h59, -, -, -, -, -, -, -, v, hv⟩ := pa59_0 H'
  exact h.sm h59 hv e e15 e16 e66
theorem up_y0 (H' : ai_g ρ' w' iv_0 [] [] w') (h : yrR w) (e11 : fd w' 0 11 = fd w 0 11) (e6 : fd w' 59 6 = fd w 59 6) (e33 : ex_at w' 33 = ex_at w 33) (e63 : ex_at w' 63 = ex_at w 63) : yrR w' := by
  obtain ⟨fs5, h59, -, -, -, f5, -, -, ⟨v6, e6'⟩, -⟩ := pa59_0 H'
  obtain ⟨gs, h0, -, -, -, g8, -, v, hv⟩ := pa0_0 H'
  exact h.sm h0 g8 hv h59 f5 e6' e11 e6 e33 e63
theorem up_m0 (H' : ai_g ρ' w' iv_0 [] [] w') (h : mR w 1) (e6 : fd w' 1 6 = fd w 1 6) (e7 : fd w' 1 7 = fd w 1 7) (e2 : fd w' 59 2 = fd w 59 2) (e3 : fd w' 59 3 = fd w 59 3) (F : ∀ p, (p = 2 ∨ p = 62 ∨ p = 34 ∨ p = 36 ∨ p = 37 ∨ p = 43 ∨ p = 44) → ex_at w' p = ex_at w p) : mR w' 1 := by
  obtain ⟨gs, h0, -, -, -, -, g9, -⟩ := pa0_0 H'
  exact h.sm ⟨gs, h0, g9⟩ e6 e7 e2 e3 (F _ (by omega)) (F _ (by omega)) (F _ (by omega)) (F _ (by omega)) (F _ (by omega)) (F _ (by omega)) (F _ (by omega))
theorem mtt_0 {t : Nat} (H : ai_g ρ w iv_0 [] [] w) (h : mR w t) : t = 1 := by
  obtain ⟨gs, h0, -, -, -, -, g9, -⟩ := pa0_0 H
  obtain ⟨gs', k0, k9⟩ := h.1
  obtain rfl := at_obj h0 k0
  cases (show some (Value.ref t) = some (.ref 1) from k9.symm.trans g9)
  rfl
/-- all of it stays -/
theorem mv_a0 (H : ai_g ρ w iv_0 [] [] w) (H' : ai_g ρ' w' iv_0 [] [] w') {t : Nat} (hP : tpR w) (hY : yrR w) (hM : mR w t) (hF : ∀ p ∈ mf_0, ex_at w' p = ex_at w p) (hS : ∀ q ∈ ms_0, cn_look [] w' q.1 = cn_look [] w q.1) : mv_I w' := by
  obtain rfl := mtt_0 H hM
  exact ⟨⟨(iv_0, iv_l0), List.mem_of_getElem? (i := 0) rfl, ρ', H'⟩, up_t0 H' hP (hS _ (List.mem_of_getElem? (i := 0) rfl)) (hF 15 (by decide)) (hF 16 (by decide)) (hF 66 (by decide)), up_y0 H' hY (hS _ (List.mem_of_getElem? (i := 1) rfl)) (hS _ (List.mem_of_getElem? (i := 2) rfl)) (hF 33 (by decide)) (hF 63 (by decide)), 1, up_m0 H' hM (hS _ (List.mem_of_getElem? (i := 3) rfl)) (hS _ (List.mem_of_getElem? (i := 4) rfl)) (hS _ (List.mem_of_getElem? (i := 5) rfl)) (hS _ (List.mem_of_getElem? (i := 6) rfl)) (fun p hp => by rcases hp with rfl | rfl | rfl | rfl | rfl | rfl | rfl <;> exact hF _ (by decide))⟩
/-- all but the tape stays -/
theorem mv_t0 (H : ai_g ρ w iv_0 [] [] w) (H' : ai_g ρ' w' iv_0 [] [] w') {t : Nat} (hP : tpR w') (hY : yrR w) (hM : mR w t) (hF : ∀ p ∈ mft_0, ex_at w' p = ex_at w p) (hS : ∀ q ∈ mst_0, cn_look [] w' q.1 = cn_look [] w q.1) : mv_I w' := by
  obtain rfl := mtt_0 H hM
  exact ⟨⟨(iv_0, iv_l0), List.mem_of_getElem? (i := 0) rfl, ρ', H'⟩, hP, up_y0 H' hY (hS _ (List.mem_of_getElem? (i := 0) rfl)) (hS _ (List.mem_of_getElem? (i := 1) rfl)) (hF 33 (by decide)) (hF 63 (by decide)), 1, up_m0 H' hM (hS _ (List.mem_of_getElem? (i := 2) rfl)) (hS _ (List.mem_of_getElem? (i := 3) rfl)) (hS _ (List.mem_of_getElem? (i := 4) rfl)) (hS _ (List.mem_of_getElem? (i := 5) rfl)) (fun p hp => by rcases hp with rfl | rfl | rfl | rfl | rfl | rfl | rfl <;> exact hF _ (by decide))⟩
/-- all but the year stays -/
theorem mv_y0 (H : ai_g ρ w iv_0 [] [] w) (H' : ai_g ρ' w' iv_0 [] [] w') {t : Nat} (hP : tpR w) (hY : yrR w') (hM : mR w t) (hF : ∀ p ∈ mfy_0, ex_at w' p = ex_at w p) (hS : ∀ q ∈ msy_0, cn_look [] w' q.1 = cn_look [] w q.1) : mv_I w' := by
  obtain rfl := mtt_0 H hM
  exact ⟨⟨(iv_0, iv_l0), List.mem_of_getElem? (i := 0) rfl, ρ', H'⟩, up_t0 H' hP (hS _ (List.mem_of_getElem? (i := 0) rfl)) (hF 15 (by decide)) (hF 16 (by decide)) (hF 66 (by decide)), hY, 1, up_m0 H' hM (hS _ (List.mem_of_getElem? (i := 1) rfl)) (hS _ (List.mem_of_getElem? (i := 2) rfl)) (hS _ (List.mem_of_getElem? (i := 3) rfl)) (hS _ (List.mem_of_getElem? (i := 4) rfl)) (fun p hp => by rcases hp with rfl | rfl | rfl | rfl | rfl | rfl | rfl <;> exact hF _ (by decide))⟩
/-- steps by hand -/
theorem h0_0 {vl : Int64} (H : ai_g ρ w iv_0 [] [] w) (h : tpR w) : ∃ r wx wm, Go [] 39 mt_3 (ex_ent mt_3 [.ref 0, .long vl]) w (some (.int r), wx) ∧ Go [] 39 mt_4 (ex_ent mt_4 [.ref 59, .long vl]) wx (some (.int r), wm) ∧ tpR wm := by
  have W := H.2.2.2
  obtain ⟨fs0, h0, G0⟩ := fp_o (U := iv_0.2.2.2) (p := 0) (c := 7) W rfl
  obtain ⟨fs9, h15, G15⟩ := fp_o (U := iv_0.2.2.2) (p := 15) (c := 5) W rfl
  obtain ⟨fs5, h59, G59⟩ := fp_o (U := iv_0.2.2.2) (p := 59) (c := 8) W rfl
  obtain ⟨r, wx, wm, g1, g2, g3⟩ := fe_both (X := []) (d := 38) (vl := vl) h0 (gR G0 (k := 0) rfl) (fun fs e => by cases (show some (Sum.inr (Sum.inr (5, fs))) = some (.inr (.inr (5, fs9))) from e.symm.trans h15); exact gR G15 (k := 0) rfl) (fun fs e => by cases (show some (Sum.inr (Sum.inr (8, fs))) = some (.inr (.inr (8, fs5))) from e.symm.trans h59); exact gR G59 (k := 14) rfl) h
  exact ⟨r, wx, wm, g1, g2.up, g3⟩
theorem h1_0 {x : Int32} (H : ai_g ρ w iv_0 [] [] w) (h : tpR w) : ∃ r wx wm, Go [] 39 mt_5 (ex_ent mt_5 [.ref 0, .int x]) w (some (.int r), wx) ∧ Go [] 39 mt_6 (ex_ent mt_6 [.ref 59, .int x]) wx (some (.int r), wm) ∧ tpR wm := by
  obtain ⟨gs, h0, g0, -⟩ := pa0_0 H
  exact en_both h0 g0 h
theorem h6_0 {x : Int32} {t : Nat} (H : ai_g ρ w iv_0 [] [] w) (hM : mR w t) : ∃ r, Go [] 39 mt_15 (ex_ent mt_15 [.ref 0, .int x]) w (some (.int r), w) ∧ Go [] 39 mt_16 (ex_ent mt_16 [.ref 59, .int x]) w (some (.int r), w) := by
  obtain rfl := mtt_0 H hM
  obtain ⟨gs, h0, -, -, -, -, g9, -⟩ := pa0_0 H
  obtain ⟨fs5, h59, -, -, f4, -, -, ⟨v3, f3⟩, -⟩ := pa59_0 H
  obtain ⟨tf, ta, hT, lT, -, s17, s18⟩ := paT_0 H
  obtain ⟨-, -, m3, ⟨W, WE, w1, w2, w3⟩, -⟩ := hM
  have e3 : v3 = tf 1 := fd_int h59 f3 (m3.trans (fd_obj (i := 7) hT.1 rfl))
  subst e3
  obtain ⟨l62, g62, n62⟩ := gA (U := iv_0.2.2.2) (p := 62) (m := 4) (ty := .int) H.2.2.2 rfl rfl
  obtain rfl := at_arr g62 w2
  obtain rfl := at_arr (hT.2 0 (by decide)) w1
  exact mw_weight (d := 37) h0 g9 hT.1 w1 lT.1 h59 f3 f4 w2 n62 s17 s18 w3
theorem h18_0 {x : Int32} {t : Nat} (H : ai_g ρ w iv_0 [] [] w) (hY : yrR w) (hM : mR w t) : ∃ r wx wm, Go [] 39 mt_39 (ex_ent mt_39 [.ref 0, .int x]) w (some (.int r), wx) ∧ Go [] 39 mt_40 (ex_ent mt_40 [.ref 59, .int x]) wx (some (.int r), wm) ∧ yrR wm := by
  obtain rfl := mtt_0 H hM
  obtain ⟨gs, h0, -, -, -, -, g9, -⟩ := pa0_0 H
  obtain ⟨fs5, h59, -, -, -, -, ⟨v2, f2⟩, -⟩ := pa59_0 H
  obtain ⟨tf, ta, hT, lT, ⟨-, s16⟩, -⟩ := paT_0 H
  have e2 : v2 = tf 0 := fd_int h59 f2 (hM.2.1.trans (fd_obj (i := 6) hT.1 rfl))
  subst e2
  exact yr_tell (d := 37) (by decide) (by decide) h0 g9 hT.1 s16 h59 f2 hY
theorem h19_0 {x : Int32} (hY : yrR w) : ∃ r wx wm, Go [] 39 mt_41 (ex_ent mt_41 [.ref 0, .int x]) w (some (.int r), wx) ∧ Go [] 39 mt_42 (ex_ent mt_42 [.ref 59, .int x]) wx (some (.int r), wm) ∧ yrR wm := yr_cut (d := 38) hY
theorem h33_0 {x : Int32} {t : Nat} (H : ai_g ρ w iv_0 [] [] w) (hP : tpR w) (hY : yrR w) (hM : mR w t) : ∃ r r' wx wm, Go [] 39 mt_69 (ex_ent mt_69 [.ref 0, .int x]) w (some (.int r), wx) ∧ Go [] 39 mt_70 (ex_ent mt_70 [.ref 59, .int x]) wx (some (.int r'), wm) ∧ tpR wm ∧ yrR wm ∧ mR wm t := by
  obtain rfl := mtt_0 H hM
  obtain ⟨gs, h0, -, g5, g6, -, g9, -⟩ := pa0_0 H
  obtain ⟨fs5, h59, f0, f1, -⟩ := pa59_0 H
  obtain ⟨tf, ta, hT, lT, -⟩ := paT_0 H
  obtain ⟨tf0, ta0, hI0, lI0⟩ := paI_0 H
  obtain ⟨tf1, ta1, hI1, lI1⟩ := paJ_0 H
  obtain ⟨l34, g34, n34⟩ := gA (U := iv_0.2.2.2) (p := 34) (m := 2) (ty := .boolean) H.2.2.2 rfl rfl
  obtain ⟨l60, g60, n60⟩ := gA (U := iv_0.2.2.2) (p := 60) (m := 288) (ty := .int) H.2.2.2 rfl rfl
  obtain ⟨KM, h61, n61, b61⟩ := pa61_0 H
  exact kp_go (by decide) h0 g5 g6 g9 g34 n34 (pa35_0 H) hT lT hI0 lI0 hI1 lI1 h59 f0 f1 g60 n60 h61 n61 b61 hP hY hM
theorem h34_0 {x : Int32} {t : Nat} (H : ai_g ρ w iv_0 [] [] w) (hP : tpR w) (hY : yrR w) (hM : mR w t) : ∃ r r' wx wm, Go [] 39 mt_71 (ex_ent mt_71 [.ref 0, .int x]) w (some (.int r), wx) ∧ Go [] 39 mt_72 (ex_ent mt_72 [.ref 59, .int x]) wx (some (.int r'), wm) ∧ tpR wm ∧ yrR wm ∧ mR wm t := by
  obtain rfl := mtt_0 H hM
  obtain ⟨gs, h0, -, g5, g6, -, g9, -⟩ := pa0_0 H
  obtain ⟨fs5, h59, f0, f1, -⟩ := pa59_0 H
  obtain ⟨tf, ta, hT, lT, -⟩ := paT_0 H
  obtain ⟨tf0, ta0, hI0, lI0⟩ := paI_0 H
  obtain ⟨tf1, ta1, hI1, lI1⟩ := paJ_0 H
  obtain ⟨l34, g34, n34⟩ := gA (U := iv_0.2.2.2) (p := 34) (m := 2) (ty := .boolean) H.2.2.2 rfl rfl
  obtain ⟨l60, g60, n60⟩ := gA (U := iv_0.2.2.2) (p := 60) (m := 288) (ty := .int) H.2.2.2 rfl rfl
  obtain ⟨KM, h61, n61, b61⟩ := pa61_0 H
  exact bk_go (by decide) h0 g5 g6 g9 g34 n34 (pa35_0 H) hT lT hI0 lI0 hI1 lI1 h59 f0 f1 g60 n60 h61 n61 hP hY hM
end C0

theorem tx_st0 {ρ : List Int} {w : ex_W} (H : ai_g ρ w iv_0 [] [] w) (h : tpR w) (hY : yrR w) (hM : mR w 1) : ∃ r wx wm, Go [] 39 mt_7 (ex_ent mt_7 [.ref 0]) w (some (.int r), wx) ∧ Go [] 39 mt_8 (ex_ent mt_8 [.ref 59]) wx (some (.int r), wm) ∧ tpR wm ∧ yrR wm ∧ ∃ t, mR wm t := by
  obtain ⟨n, B, T, fs, fs5, a1, a2, a3, a4, a5, a6, a7, a8, a9, a10⟩ := h
  have W := H.2.2.2
  obtain ⟨fsA, hA, GA⟩ := fp_o (U := iv_0.2.2.2) (p := 0) (c := 7) W rfl
  obtain ⟨fsB, hB, GB⟩ := fp_o (U := iv_0.2.2.2) (p := 15) (c := 5) W rfl
  obtain ⟨fsD, hD, GD⟩ := fp_o (U := iv_0.2.2.2) (p := 8) (c := 6) W rfl
  obtain ⟨fsM, hM_, GM⟩ := fp_o (U := iv_0.2.2.2) (p := 59) (c := 8) W rfl
  obtain rfl : fsB = fs := by
    cases (show some (Sum.inr (Sum.inr (5, fsB))) = some (.inr (.inr (5, fs))) from hB.symm.trans a1)
    rfl
  obtain rfl : fsM = fs5 := by
    cases (show some (Sum.inr (Sum.inr (8, fsM))) = some (.inr (.inr (8, fs5))) from hM_.symm.trans a4)
    rfl
  obtain ⟨z11, e11, -⟩ := gI GA (k := 11) rfl
  obtain ⟨z12, e12, -⟩ := gI GA (k := 12) rfl
  obtain ⟨b2, eb2, -⟩ := gI GB (k := 2) rfl
  obtain ⟨b3, eb3, -⟩ := gI GB (k := 3) rfl
  obtain ⟨b5, eb5, -⟩ := gI GB (k := 5) rfl
  obtain ⟨b6, eb6, -⟩ := gI GB (k := 6) rfl
  obtain ⟨b7, eb7, -⟩ := gI GB (k := 7) rfl
  obtain ⟨b8, eb8, -⟩ := gI GB (k := 8) rfl
  obtain ⟨b9, eb9, -⟩ := gI GB (k := 9) rfl
  obtain ⟨vv, eb4, -⟩ := fp_f GB (k := 4) rfl
  obtain ⟨d6, ed6, -⟩ := gI GD (k := 6) rfl
  obtain ⟨d7, ed7, -⟩ := gI GD (k := 7) rfl
  obtain ⟨d8, ed8, -⟩ := gI GD (k := 8) rfl
  obtain ⟨d9, ed9, -⟩ := gI GD (k := 9) rfl
  obtain ⟨d10, ed10, -⟩ := gI GD (k := 10) rfl
  obtain ⟨d11, ed11, -⟩ := gI GD (k := 11) rfl
  obtain ⟨d12, ed12, -⟩ := gI GD (k := 12) rfl
  obtain ⟨d13, ed13, -⟩ := gI GD (k := 13) rfl
  obtain ⟨m2, em2, -⟩ := gI GM (k := 2) rfl
  obtain ⟨m3, em3, -⟩ := gI GM (k := 3) rfl
  obtain ⟨m6, em6, -⟩ := gI GM (k := 6) rfl
  obtain ⟨m8, em8, -⟩ := gI GM (k := 8) rfl
  obtain ⟨m9, em9, -⟩ := gI GM (k := 9) rfl
  obtain ⟨m11, em11, -⟩ := gI GM (k := 11) rfl
  obtain ⟨m12, em12, -⟩ := gI GM (k := 12) rfl
  obtain ⟨m13, em13, -⟩ := gI GM (k := 13) rfl
  obtain ⟨m16, em16, -⟩ := gI GM (k := 16) rfl
  obtain ⟨m17, em17, -⟩ := gI GM (k := 17) rfl
  obtain ⟨m18, em18, -⟩ := gI GM (k := 18) rfl
  obtain ⟨m19, em19, -⟩ := gI GM (k := 19) rfl
  obtain ⟨m20, em20, -⟩ := gI GM (k := 20) rfl
  obtain ⟨m21, em21, -⟩ := gI GM (k := 21) rfl
  obtain ⟨m23, em23, -⟩ := gI GM (k := 23) rfl
  obtain ⟨m26, em26, -⟩ := gI GM (k := 26) rfl
  obtain ⟨m33, em33, -⟩ := gI GM (k := 33) rfl
  obtain ⟨l9, g9, n9⟩ := gA (U := iv_0.2.2.2) (p := 9) (m := 4) (ty := .int) W rfl rfl
  obtain ⟨l10, g10, n10⟩ := gA (U := iv_0.2.2.2) (p := 10) (m := 17) (ty := .int) W rfl rfl
  obtain ⟨l11, g11, n11⟩ := gA (U := iv_0.2.2.2) (p := 11) (m := 60) (ty := .int) W rfl rfl
  obtain ⟨l12, g12, n12⟩ := gA (U := iv_0.2.2.2) (p := 12) (m := 5) (ty := .int) W rfl rfl
  obtain ⟨l13, g13, n13⟩ := gA (U := iv_0.2.2.2) (p := 13) (m := 4) (ty := .int) W rfl rfl
  obtain ⟨l14, g14, n14⟩ := gA (U := iv_0.2.2.2) (p := 14) (m := 4) (ty := .int) W rfl rfl
  obtain ⟨l34, g34, n34⟩ := gA (U := iv_0.2.2.2) (p := 34) (m := 2) (ty := .boolean) W rfl rfl
  obtain ⟨l60, g60, n60⟩ := gA (U := iv_0.2.2.2) (p := 60) (m := 288) (ty := .int) W rfl rfl
  obtain ⟨l61, g61, n61⟩ := gA (U := iv_0.2.2.2) (p := 61) (m := 2) (ty := .boolean) W rfl rfl
  obtain ⟨l62, g62, n62⟩ := gA (U := iv_0.2.2.2) (p := 62) (m := 4) (ty := .int) W rfl rfl
  obtain ⟨l64, g64, n64⟩ := gA (U := iv_0.2.2.2) (p := 64) (m := 96) (ty := .int) W rfl rfl
  obtain ⟨l65, g65, n65⟩ := gA (U := iv_0.2.2.2) (p := 65) (m := 4) (ty := .int) W rfl rfl
  have hput : ex_put fsB 4 (.ref 8) = tr 8 (nI n) b2 b3 b5 b6 b7 b8 b9 := ex_ext (m := 10) (by rw [ex_put_eq, List.length_set]; exact gL GB rfl) rfl (fun i hi => match i, hi with
    | 0, _ => vg_at_o rfl (gR GB (k := 0) rfl)
    | 1, _ => vg_at_o rfl a2
    | 2, _ => vg_at_o rfl eb2
    | 3, _ => vg_at_o rfl eb3
    | 4, _ => vg_at_put eb4
    | 5, _ => vg_at_o rfl eb5
    | 6, _ => vg_at_o rfl eb6
    | 7, _ => vg_at_o rfl eb7
    | 8, _ => vg_at_o rfl eb8
    | 9, _ => vg_at_o rfl eb9)
  have hD2 : fsD = td 8 d6 d7 d8 d9 d10 d11 d12 d13 := ex_ext (m := 14) (gL GD rfl) rfl (fun i hi => match i, hi with
    | 0, _ => gR GD (k := 0) rfl
    | 1, _ => gR GD (k := 1) rfl
    | 2, _ => gR GD (k := 2) rfl
    | 3, _ => gR GD (k := 3) rfl
    | 4, _ => gR GD (k := 4) rfl
    | 5, _ => gR GD (k := 5) rfl
    | 6, _ => ed6
    | 7, _ => ed7
    | 8, _ => ed8
    | 9, _ => ed9
    | 10, _ => ed10
    | 11, _ => ed11
    | 12, _ => ed12
    | 13, _ => ed13)
  have hM2 : fsM = nm (up (up (up (fun _ => 0) 0 m23) 1 m26) 2 m33) m2 m3 m6 m8 m9 m11 m12 m13 (nI n) m16 m17 m18 m19 m20 m21 := ex_ext (m := 34) (gL GM rfl) rfl (fun i hi => match i, hi with
    | 0, _ => gR GM (k := 0) rfl
    | 1, _ => gR GM (k := 1) rfl
    | 2, _ => em2
    | 3, _ => em3
    | 4, _ => gR GM (k := 4) rfl
    | 5, _ => gR GM (k := 5) rfl
    | 6, _ => em6
    | 7, _ => gR GM (k := 7) rfl
    | 8, _ => em8
    | 9, _ => em9
    | 10, _ => gR GM (k := 10) rfl
    | 11, _ => em11
    | 12, _ => em12
    | 13, _ => em13
    | 14, _ => gR GM (k := 14) rfl
    | 15, _ => a5
    | 16, _ => em16
    | 17, _ => em17
    | 18, _ => em18
    | 19, _ => em19
    | 20, _ => em20
    | 21, _ => em21
    | 22, _ => gR GM (k := 22) rfl
    | 23, _ => em23
    | 24, _ => gR GM (k := 24) rfl
    | 25, _ => gR GM (k := 25) rfl
    | 26, _ => em26
    | 27, _ => gR GM (k := 27) rfl
    | 28, _ => gR GM (k := 28) rfl
    | 29, _ => gR GM (k := 29) rfl
    | 30, _ => gR GM (k := 30) rfl
    | 31, _ => gR GM (k := 31) rfl
    | 32, _ => gR GM (k := 32) rfl
    | 33, _ => em33
    | k + 34, hk => absurd hk (by omega))
  have hC : cA w 8 B (up (up (up (up (up (up (up (up (fun _ => 0) 0 d6) 1 d7) 2 d8) 3 d9) 4 d10) 5 d11) 6 d12) 7 d13) (up (up (up (up (up (up (fun _ => []) 0 l9) 1 l10) 2 l11) 3 l12) 4 l13) 5 l14) := ⟨a3, by subst hD2; exact hD, fun k hk => match k, hk with
    | 0, _ => g9
    | 1, _ => g10
    | 2, _ => g11
    | 3, _ => g12
    | 4, _ => g13
    | 5, _ => g14⟩
  have hcB : cB (fun i => (T.getD i 0).toInt.toNat) n B := ⟨a8, a7, fun i hi => by
    obtain ⟨q1, q2, q3⟩ := a10 i hi
    show ((T.getD i 0).toInt.toNat < 128 ∧ (B.getD i 0).toInt = ((T.getD i 0).toInt.toNat : Int)) ∨ (128 ≤ (T.getD i 0).toInt.toNat ∧ (B.getD i 0).toInt = ((T.getD i 0).toInt.toNat : Int) - 256 ∧ (T.getD i 0).toInt.toNat < 256)
    rcases q3 with ⟨q3, q4⟩ | ⟨q3, q4⟩
    · exact Or.inl ⟨by omega, by rw [q4]; omega⟩
    · exact Or.inr ⟨by omega, by rw [q4]; omega, by omega⟩⟩
  have hrB : rB (fun i => (T.getD i 0).toInt.toNat) n T := ⟨a9, a7, fun i hi => by
    obtain ⟨q1, q2, q3⟩ := a10 i hi
    exact ⟨by show (T.getD i 0).toInt.toNat < 256; omega, tI_nI (by show _ = (((T.getD i 0).toInt.toNat : Nat) : Int); omega) (by show (T.getD i 0).toInt.toNat < 2 ^ 31; omega)⟩⟩
  have h59 : ex_at w 59 = some (rC (up (up (up (fun _ => 0) 0 m23) 1 m26) 2 m33) m2 m3 m6 m8 m9 m11 m12 m13 (nI n) m16 m17 m18 m19 m20 m21) := by rw [a4, hM2]
  obtain ⟨r, wx, wm, q1, q2, ⟨gs, q3, q4⟩, ⟨gs5, q5, q6⟩, q7, q8, q9⟩ := tx_full (X := []) (d := 31) (by decide) (by decide) hcB hrB hA (gR GA (k := 0) rfl) (gR GA (k := 6) rfl) (gR GA (k := 9) rfl) (gR GA (k := 10) rfl) e11 e12 a1 eb4 hput hC n9 n10 ⟨n11, n12, n13, n14⟩ g34 n34 h59 ⟨a6, g64, g65⟩ n64 n65 g60 n60 g61 n61 g62 n62
  refine ⟨r, wx, wm, q1, q2.up, ⟨0, B, T, gs, gs5, q3, q4, q7.trans a3, q5, q6, q8.trans a6, by omega, a8, a9, fun i hi => by omega⟩, ?_⟩
  rcases q9 with ⟨⟨fa1, k0⟩, ⟨g5, k59, k7⟩, kF⟩ | ⟨tf', ta', ST', WE', dn', an', wn', KX, KM, kS, -, k0, ⟨g5, k59, k5, k6, -⟩, k34, -, ⟨-, kz⟩, -, kF⟩
  · exact ⟨hY.text0 hA hM_ hM2 k0 k59 k7 (kF 33 (by decide) (by decide) (by decide) (by decide) (by decide) (by decide)) (kF 63 (by decide) (by decide) (by decide) (by decide) (by decide) (by decide)), 1, hM.text0 hA hM_ hM2 (gR GA (k := 9) rfl) k0 k59 k7 (fun q hq => by
      rcases hq with rfl | rfl | rfl | rfl | rfl | rfl | rfl | rfl <;> exact kF _ (by decide) (by decide) (by decide) (by decide) (by decide) (by decide))⟩
  · exact ⟨hY.text1 hA (gR GA (k := 8) rfl) k0 k59 k5 k6 (kF 33 (by decide) (by decide) (by decide) (by decide) (by decide) (by decide) (by decide) (by decide) (by decide) (by decide)) (kF 63 (by decide) (by decide) (by decide) (by decide) (by decide) (by decide) (by decide) (by decide) (by decide) (by decide)), 8, mR_text1 kS k34 kz⟩
section C1
variable {ρ ρ' : List Int} {w w' : ex_W}
theorem pa0_1 (H : ai_g ρ w iv_1 [] [] w) : ∃ gs, ex_at w 0 = some (.inr (.inr (7, gs))) ∧ ex_at gs 0 = some (.ref 15) ∧ ex_at gs 5 = some (.ref 35) ∧ ex_at gs 6 = some (.ref 34) ∧ ex_at gs 8 = some (.ref 33) ∧ ex_at gs 9 = some (.ref 8) ∧ ∃ v, ex_at gs 11 = some (.int v) := by
  obtain ⟨gs, h0, G⟩ := fp_o (U := iv_1.2.2.2) (p := 0) (c := 7) H.2.2.2 rfl
  obtain ⟨v, hv, -⟩ := gI G (k := 11) rfl
  exact ⟨gs, h0, gR G (k := 0) rfl, gR G (k := 5) rfl, gR G (k := 6) rfl, gR G (k := 8) rfl, gR G (k := 9) rfl, v, hv⟩
theorem pa59_1 (H : ai_g ρ w iv_1 [] [] w) : ∃ fs5, ex_at w 59 = some (.inr (.inr (8, fs5))) ∧ ex_at fs5 0 = some (.ref 60) ∧ ex_at fs5 1 = some (.ref 61) ∧ ex_at fs5 4 = some (.ref 62) ∧ ex_at fs5 5 = some (.ref 63) ∧ (∃ v, ex_at fs5 2 = some (.int v)) ∧ (∃ v, ex_at fs5 3 = some (.int v)) ∧ (∃ v, ex_at fs5 6 = some (.int v)) ∧ ∃ v, ex_at fs5 15 = some (.int v) := by
  obtain ⟨gs, h0, G⟩ := fp_o (U := iv_1.2.2.2) (p := 59) (c := 8) H.2.2.2 rfl
  obtain ⟨v2, e2, -⟩ := gI G (k := 2) rfl
  obtain ⟨v3, e3, -⟩ := gI G (k := 3) rfl
  obtain ⟨v6, e6, -⟩ := gI G (k := 6) rfl
  obtain ⟨v15, e15, -⟩ := gI G (k := 15) rfl
  exact ⟨gs, h0, gR G (k := 0) rfl, gR G (k := 1) rfl, gR G (k := 4) rfl, gR G (k := 5) rfl, ⟨v2, e2⟩, ⟨v3, e3⟩, ⟨v6, e6⟩, v15, e15⟩
theorem paT_1 (H : ai_g ρ w iv_1 [] [] w) : ∃ tf ta, tA w 8 tf ta ∧ tL ta ∧ (4 ≤ (tf 0).toInt ∧ (tf 0).toInt ≤ 16) ∧ (1 ≤ (tf 1).toInt ∧ (tf 1).toInt ≤ 4) := tA_of (p := 8) (U := iv_1.2.2.2) H.2.2.2 rfl rfl rfl rfl rfl rfl rfl rfl rfl rfl rfl rfl rfl
theorem paI_1 (H : ai_g ρ w iv_1 [] [] w) : ∃ tf ta, tA w 36 tf ta ∧ tL ta := by
  obtain ⟨tf, ta, h1, h2, -⟩ := tA_of (p := 36) (U := iv_1.2.2.2) H.2.2.2 rfl rfl rfl rfl rfl rfl rfl rfl rfl rfl rfl rfl rfl
  exact ⟨tf, ta, h1, h2⟩
theorem paJ_1 (H : ai_g ρ w iv_1 [] [] w) : ∃ tf ta, tA w 43 tf ta ∧ tL ta := by
  obtain ⟨tf, ta, h1, h2, -⟩ := tA_of (p := 43) (U := iv_1.2.2.2) H.2.2.2 rfl rfl rfl rfl rfl rfl rfl rfl rfl rfl rfl rfl rfl
  exact ⟨tf, ta, h1, h2⟩
theorem pa35_1 (H : ai_g ρ w iv_1 [] [] w) : ex_at w 35 = some (.inr (.inl (6, [some 36, some 43]))) := by
  obtain ⟨x, h1, -, h3⟩ := H.2.2.2.2.2 35 (false, some (.inr (.inl (6, [some 36, some 43])))) rfl
  have hx := (h3 _ rfl).row
  rw [hx] at h1
  rw [ex_at_eq]
  exact h1
theorem pa61_1 (H : ai_g ρ w iv_1 [] [] w) : ∃ KM, ex_at w 61 = some (.inl (.boolean, KM)) ∧ KM.length = 2 ∧ ∀ k, k < 2 → (KM.getD k 0).toInt = 0 ∨ (KM.getD k 0).toInt = 1 := by
  obtain ⟨l, h1, h2⟩ := fp_r (U := iv_1.2.2.2) (p := 61) (ty := .boolean) H.2.2.2 rfl
  refine ⟨l, h1, h2.len, fun k hk => ?_⟩
  obtain ⟨h3, h4, h5, -⟩ := fp_rd h2 hk
  have h4 : (0 : Int) ≤ (l.getD k 0).toInt := h4
  have h5 : (l.getD k 0).toInt ≤ (1 : Int) := h5
  omega
theorem up_t1 (H' : ai_g ρ' w' iv_1 [] [] w') (h : tpR w) (e : fd w' 59 15 = fd w 59 15) (e15 : ex_at w' 15 = ex_at w 15) (e16 : ex_at w' 16 = ex_at w 16) (e66 : ex_at w' 66 = ex_at w 66) : tpR w' := by
  obtain ⟨fs5, h59, -, -, -, -, -, -, -, v, hv⟩ := pa59_1 H'
  exact h.sm h59 hv e e15 e16 e66
theorem up_y1 (H' : ai_g ρ' w' iv_1 [] [] w') (h : yrR w) (e11 : fd w' 0 11 = fd w 0 11) (e6 : fd w' 59 6 = fd w 59 6) (e33 : ex_at w' 33 = ex_at w 33) (e63 : ex_at w' 63 = ex_at w 63) : yrR w' := by
  obtain ⟨fs5, h59, -, -, -, f5, -, -, ⟨v6, e6'⟩, -⟩ := pa59_1 H'
  obtain ⟨gs, h0, -, -, -, g8, -, v, hv⟩ := pa0_1 H'
  exact h.sm h0 g8 hv h59 f5 e6' e11 e6 e33 e63
theorem up_m1 (H' : ai_g ρ' w' iv_1 [] [] w') (h : mR w 8) (e6 : fd w' 8 6 = fd w 8 6) (e7 : fd w' 8 7 = fd w 8 7) (e2 : fd w' 59 2 = fd w 59 2) (e3 : fd w' 59 3 = fd w 59 3) (F : ∀ p, (p = 9 ∨ p = 62 ∨ p = 34 ∨ p = 36 ∨ p = 37 ∨ p = 43 ∨ p = 44) → ex_at w' p = ex_at w p) : mR w' 8 := by
  obtain ⟨gs, h0, -, -, -, -, g9, -⟩ := pa0_1 H'
  exact h.sm ⟨gs, h0, g9⟩ e6 e7 e2 e3 (F _ (by omega)) (F _ (by omega)) (F _ (by omega)) (F _ (by omega)) (F _ (by omega)) (F _ (by omega)) (F _ (by omega))
theorem mtt_1 {t : Nat} (H : ai_g ρ w iv_1 [] [] w) (h : mR w t) : t = 8 := by
  obtain ⟨gs, h0, -, -, -, -, g9, -⟩ := pa0_1 H
  obtain ⟨gs', k0, k9⟩ := h.1
  obtain rfl := at_obj h0 k0
  cases (show some (Value.ref t) = some (.ref 8) from k9.symm.trans g9)
  rfl
/-- all of it stays -/
theorem mv_a1 (H : ai_g ρ w iv_1 [] [] w) (H' : ai_g ρ' w' iv_1 [] [] w') {t : Nat} (hP : tpR w) (hY : yrR w) (hM : mR w t) (hF : ∀ p ∈ mf_1, ex_at w' p = ex_at w p) (hS : ∀ q ∈ ms_1, cn_look [] w' q.1 = cn_look [] w q.1) : mv_I w' := by
  obtain rfl := mtt_1 H hM
  exact ⟨⟨(iv_1, iv_l1), List.mem_of_getElem? (i := 1) rfl, ρ', H'⟩, up_t1 H' hP (hS _ (List.mem_of_getElem? (i := 0) rfl)) (hF 15 (by decide)) (hF 16 (by decide)) (hF 66 (by decide)), up_y1 H' hY (hS _ (List.mem_of_getElem? (i := 1) rfl)) (hS _ (List.mem_of_getElem? (i := 2) rfl)) (hF 33 (by decide)) (hF 63 (by decide)), 8, up_m1 H' hM (hS _ (List.mem_of_getElem? (i := 3) rfl)) (hS _ (List.mem_of_getElem? (i := 4) rfl)) (hS _ (List.mem_of_getElem? (i := 5) rfl)) (hS _ (List.mem_of_getElem? (i := 6) rfl)) (fun p hp => by rcases hp with rfl | rfl | rfl | rfl | rfl | rfl | rfl <;> exact hF _ (by decide))⟩
/-- all but the tape stays -/
theorem mv_t1 (H : ai_g ρ w iv_1 [] [] w) (H' : ai_g ρ' w' iv_1 [] [] w') {t : Nat} (hP : tpR w') (hY : yrR w) (hM : mR w t) (hF : ∀ p ∈ mft_1, ex_at w' p = ex_at w p) (hS : ∀ q ∈ mst_1, cn_look [] w' q.1 = cn_look [] w q.1) : mv_I w' := by
  obtain rfl := mtt_1 H hM
  exact ⟨⟨(iv_1, iv_l1), List.mem_of_getElem? (i := 1) rfl, ρ', H'⟩, hP, up_y1 H' hY (hS _ (List.mem_of_getElem? (i := 0) rfl)) (hS _ (List.mem_of_getElem? (i := 1) rfl)) (hF 33 (by decide)) (hF 63 (by decide)), 8, up_m1 H' hM (hS _ (List.mem_of_getElem? (i := 2) rfl)) (hS _ (List.mem_of_getElem? (i := 3) rfl)) (hS _ (List.mem_of_getElem? (i := 4) rfl)) (hS _ (List.mem_of_getElem? (i := 5) rfl)) (fun p hp => by rcases hp with rfl | rfl | rfl | rfl | rfl | rfl | rfl <;> exact hF _ (by decide))⟩
/-- all but the year stays -/
theorem mv_y1 (H : ai_g ρ w iv_1 [] [] w) (H' : ai_g ρ' w' iv_1 [] [] w') {t : Nat} (hP : tpR w) (hY : yrR w') (hM : mR w t) (hF : ∀ p ∈ mfy_1, ex_at w' p = ex_at w p) (hS : ∀ q ∈ msy_1, cn_look [] w' q.1 = cn_look [] w q.1) : mv_I w' := by
  obtain rfl := mtt_1 H hM
  exact ⟨⟨(iv_1, iv_l1), List.mem_of_getElem? (i := 1) rfl, ρ', H'⟩, up_t1 H' hP (hS _ (List.mem_of_getElem? (i := 0) rfl)) (hF 15 (by decide)) (hF 16 (by decide)) (hF 66 (by decide)), hY, 8, up_m1 H' hM (hS _ (List.mem_of_getElem? (i := 1) rfl)) (hS _ (List.mem_of_getElem? (i := 2) rfl)) (hS _ (List.mem_of_getElem? (i := 3) rfl)) (hS _ (List.mem_of_getElem? (i := 4) rfl)) (fun p hp => by rcases hp with rfl | rfl | rfl | rfl | rfl | rfl | rfl <;> exact hF _ (by decide))⟩
/-- steps by hand -/
theorem h0_1 {vl : Int64} (H : ai_g ρ w iv_1 [] [] w) (h : tpR w) : ∃ r wx wm, Go [] 39 mt_3 (ex_ent mt_3 [.ref 0, .long vl]) w (some (.int r), wx) ∧ Go [] 39 mt_4 (ex_ent mt_4 [.ref 59, .long vl]) wx (some (.int r), wm) ∧ tpR wm := by
  have W := H.2.2.2
  obtain ⟨fs0, h0, G0⟩ := fp_o (U := iv_1.2.2.2) (p := 0) (c := 7) W rfl
  obtain ⟨fs9, h15, G15⟩ := fp_o (U := iv_1.2.2.2) (p := 15) (c := 5) W rfl
  obtain ⟨fs5, h59, G59⟩ := fp_o (U := iv_1.2.2.2) (p := 59) (c := 8) W rfl
  obtain ⟨r, wx, wm, g1, g2, g3⟩ := fe_both (X := []) (d := 38) (vl := vl) h0 (gR G0 (k := 0) rfl) (fun fs e => by cases (show some (Sum.inr (Sum.inr (5, fs))) = some (.inr (.inr (5, fs9))) from e.symm.trans h15); exact gR G15 (k := 0) rfl) (fun fs e => by cases (show some (Sum.inr (Sum.inr (8, fs))) = some (.inr (.inr (8, fs5))) from e.symm.trans h59); exact gR G59 (k := 14) rfl) h
  exact ⟨r, wx, wm, g1, g2.up, g3⟩
theorem h1_1 {x : Int32} (H : ai_g ρ w iv_1 [] [] w) (h : tpR w) : ∃ r wx wm, Go [] 39 mt_5 (ex_ent mt_5 [.ref 0, .int x]) w (some (.int r), wx) ∧ Go [] 39 mt_6 (ex_ent mt_6 [.ref 59, .int x]) wx (some (.int r), wm) ∧ tpR wm := by
  obtain ⟨gs, h0, g0, -⟩ := pa0_1 H
  exact en_both h0 g0 h
theorem h6_1 {x : Int32} {t : Nat} (H : ai_g ρ w iv_1 [] [] w) (hM : mR w t) : ∃ r, Go [] 39 mt_15 (ex_ent mt_15 [.ref 0, .int x]) w (some (.int r), w) ∧ Go [] 39 mt_16 (ex_ent mt_16 [.ref 59, .int x]) w (some (.int r), w) := by
  obtain rfl := mtt_1 H hM
  obtain ⟨gs, h0, -, -, -, -, g9, -⟩ := pa0_1 H
  obtain ⟨fs5, h59, -, -, f4, -, -, ⟨v3, f3⟩, -⟩ := pa59_1 H
  obtain ⟨tf, ta, hT, lT, -, s17, s18⟩ := paT_1 H
  obtain ⟨-, -, m3, ⟨W, WE, w1, w2, w3⟩, -⟩ := hM
  have e3 : v3 = tf 1 := fd_int h59 f3 (m3.trans (fd_obj (i := 7) hT.1 rfl))
  subst e3
  obtain ⟨l62, g62, n62⟩ := gA (U := iv_1.2.2.2) (p := 62) (m := 4) (ty := .int) H.2.2.2 rfl rfl
  obtain rfl := at_arr g62 w2
  obtain rfl := at_arr (hT.2 0 (by decide)) w1
  exact mw_weight (d := 37) h0 g9 hT.1 w1 lT.1 h59 f3 f4 w2 n62 s17 s18 w3
theorem h18_1 {x : Int32} {t : Nat} (H : ai_g ρ w iv_1 [] [] w) (hY : yrR w) (hM : mR w t) : ∃ r wx wm, Go [] 39 mt_39 (ex_ent mt_39 [.ref 0, .int x]) w (some (.int r), wx) ∧ Go [] 39 mt_40 (ex_ent mt_40 [.ref 59, .int x]) wx (some (.int r), wm) ∧ yrR wm := by
  obtain rfl := mtt_1 H hM
  obtain ⟨gs, h0, -, -, -, -, g9, -⟩ := pa0_1 H
  obtain ⟨fs5, h59, -, -, -, -, ⟨v2, f2⟩, -⟩ := pa59_1 H
  obtain ⟨tf, ta, hT, lT, ⟨-, s16⟩, -⟩ := paT_1 H
  have e2 : v2 = tf 0 := fd_int h59 f2 (hM.2.1.trans (fd_obj (i := 6) hT.1 rfl))
  subst e2
  exact yr_tell (d := 37) (by decide) (by decide) h0 g9 hT.1 s16 h59 f2 hY
theorem h19_1 {x : Int32} (hY : yrR w) : ∃ r wx wm, Go [] 39 mt_41 (ex_ent mt_41 [.ref 0, .int x]) w (some (.int r), wx) ∧ Go [] 39 mt_42 (ex_ent mt_42 [.ref 59, .int x]) wx (some (.int r), wm) ∧ yrR wm := yr_cut (d := 38) hY
theorem h33_1 {x : Int32} {t : Nat} (H : ai_g ρ w iv_1 [] [] w) (hP : tpR w) (hY : yrR w) (hM : mR w t) : ∃ r r' wx wm, Go [] 39 mt_69 (ex_ent mt_69 [.ref 0, .int x]) w (some (.int r), wx) ∧ Go [] 39 mt_70 (ex_ent mt_70 [.ref 59, .int x]) wx (some (.int r'), wm) ∧ tpR wm ∧ yrR wm ∧ mR wm t := by
  obtain rfl := mtt_1 H hM
  obtain ⟨gs, h0, -, g5, g6, -, g9, -⟩ := pa0_1 H
  obtain ⟨fs5, h59, f0, f1, -⟩ := pa59_1 H
  obtain ⟨tf, ta, hT, lT, -⟩ := paT_1 H
  obtain ⟨tf0, ta0, hI0, lI0⟩ := paI_1 H
  obtain ⟨tf1, ta1, hI1, lI1⟩ := paJ_1 H
  obtain ⟨l34, g34, n34⟩ := gA (U := iv_1.2.2.2) (p := 34) (m := 2) (ty := .boolean) H.2.2.2 rfl rfl
  obtain ⟨l60, g60, n60⟩ := gA (U := iv_1.2.2.2) (p := 60) (m := 288) (ty := .int) H.2.2.2 rfl rfl
  obtain ⟨KM, h61, n61, b61⟩ := pa61_1 H
  exact kp_go (by decide) h0 g5 g6 g9 g34 n34 (pa35_1 H) hT lT hI0 lI0 hI1 lI1 h59 f0 f1 g60 n60 h61 n61 b61 hP hY hM
theorem h34_1 {x : Int32} {t : Nat} (H : ai_g ρ w iv_1 [] [] w) (hP : tpR w) (hY : yrR w) (hM : mR w t) : ∃ r r' wx wm, Go [] 39 mt_71 (ex_ent mt_71 [.ref 0, .int x]) w (some (.int r), wx) ∧ Go [] 39 mt_72 (ex_ent mt_72 [.ref 59, .int x]) wx (some (.int r'), wm) ∧ tpR wm ∧ yrR wm ∧ mR wm t := by
  obtain rfl := mtt_1 H hM
  obtain ⟨gs, h0, -, g5, g6, -, g9, -⟩ := pa0_1 H
  obtain ⟨fs5, h59, f0, f1, -⟩ := pa59_1 H
  obtain ⟨tf, ta, hT, lT, -⟩ := paT_1 H
  obtain ⟨tf0, ta0, hI0, lI0⟩ := paI_1 H
  obtain ⟨tf1, ta1, hI1, lI1⟩ := paJ_1 H
  obtain ⟨l34, g34, n34⟩ := gA (U := iv_1.2.2.2) (p := 34) (m := 2) (ty := .boolean) H.2.2.2 rfl rfl
  obtain ⟨l60, g60, n60⟩ := gA (U := iv_1.2.2.2) (p := 60) (m := 288) (ty := .int) H.2.2.2 rfl rfl
  obtain ⟨KM, h61, n61, b61⟩ := pa61_1 H
  exact bk_go (by decide) h0 g5 g6 g9 g34 n34 (pa35_1 H) hT lT hI0 lI0 hI1 lI1 h59 f0 f1 g60 n60 h61 n61 hP hY hM
end C1

theorem tx_st1 {ρ : List Int} {w : ex_W} (H : ai_g ρ w iv_1 [] [] w) (h : tpR w) (hY : yrR w) (hM : mR w 8) : ∃ r wx wm, Go [] 39 mt_7 (ex_ent mt_7 [.ref 0]) w (some (.int r), wx) ∧ Go [] 39 mt_8 (ex_ent mt_8 [.ref 59]) wx (some (.int r), wm) ∧ tpR wm ∧ yrR wm ∧ ∃ t, mR wm t := by
  obtain ⟨n, B, T, fs, fs5, a1, a2, a3, a4, a5, a6, a7, a8, a9, a10⟩ := h
  have W := H.2.2.2
  obtain ⟨fsA, hA, GA⟩ := fp_o (U := iv_1.2.2.2) (p := 0) (c := 7) W rfl
  obtain ⟨fsB, hB, GB⟩ := fp_o (U := iv_1.2.2.2) (p := 15) (c := 5) W rfl
  obtain ⟨fsD, hD, GD⟩ := fp_o (U := iv_1.2.2.2) (p := 1) (c := 6) W rfl
  obtain ⟨fsM, hM_, GM⟩ := fp_o (U := iv_1.2.2.2) (p := 59) (c := 8) W rfl
  obtain rfl : fsB = fs := by
    cases (show some (Sum.inr (Sum.inr (5, fsB))) = some (.inr (.inr (5, fs))) from hB.symm.trans a1)
    rfl
  obtain rfl : fsM = fs5 := by
    cases (show some (Sum.inr (Sum.inr (8, fsM))) = some (.inr (.inr (8, fs5))) from hM_.symm.trans a4)
    rfl
  obtain ⟨z11, e11, -⟩ := gI GA (k := 11) rfl
  obtain ⟨z12, e12, -⟩ := gI GA (k := 12) rfl
  obtain ⟨b2, eb2, -⟩ := gI GB (k := 2) rfl
  obtain ⟨b3, eb3, -⟩ := gI GB (k := 3) rfl
  obtain ⟨b5, eb5, -⟩ := gI GB (k := 5) rfl
  obtain ⟨b6, eb6, -⟩ := gI GB (k := 6) rfl
  obtain ⟨b7, eb7, -⟩ := gI GB (k := 7) rfl
  obtain ⟨b8, eb8, -⟩ := gI GB (k := 8) rfl
  obtain ⟨b9, eb9, -⟩ := gI GB (k := 9) rfl
  obtain ⟨vv, eb4, -⟩ := fp_f GB (k := 4) rfl
  obtain ⟨d6, ed6, -⟩ := gI GD (k := 6) rfl
  obtain ⟨d7, ed7, -⟩ := gI GD (k := 7) rfl
  obtain ⟨d8, ed8, -⟩ := gI GD (k := 8) rfl
  obtain ⟨d9, ed9, -⟩ := gI GD (k := 9) rfl
  obtain ⟨d10, ed10, -⟩ := gI GD (k := 10) rfl
  obtain ⟨d11, ed11, -⟩ := gI GD (k := 11) rfl
  obtain ⟨d12, ed12, -⟩ := gI GD (k := 12) rfl
  obtain ⟨d13, ed13, -⟩ := gI GD (k := 13) rfl
  obtain ⟨m2, em2, -⟩ := gI GM (k := 2) rfl
  obtain ⟨m3, em3, -⟩ := gI GM (k := 3) rfl
  obtain ⟨m6, em6, -⟩ := gI GM (k := 6) rfl
  obtain ⟨m8, em8, -⟩ := gI GM (k := 8) rfl
  obtain ⟨m9, em9, -⟩ := gI GM (k := 9) rfl
  obtain ⟨m11, em11, -⟩ := gI GM (k := 11) rfl
  obtain ⟨m12, em12, -⟩ := gI GM (k := 12) rfl
  obtain ⟨m13, em13, -⟩ := gI GM (k := 13) rfl
  obtain ⟨m16, em16, -⟩ := gI GM (k := 16) rfl
  obtain ⟨m17, em17, -⟩ := gI GM (k := 17) rfl
  obtain ⟨m18, em18, -⟩ := gI GM (k := 18) rfl
  obtain ⟨m19, em19, -⟩ := gI GM (k := 19) rfl
  obtain ⟨m20, em20, -⟩ := gI GM (k := 20) rfl
  obtain ⟨m21, em21, -⟩ := gI GM (k := 21) rfl
  obtain ⟨m23, em23, -⟩ := gI GM (k := 23) rfl
  obtain ⟨m26, em26, -⟩ := gI GM (k := 26) rfl
  obtain ⟨m33, em33, -⟩ := gI GM (k := 33) rfl
  obtain ⟨l2, g2, n2⟩ := gA (U := iv_1.2.2.2) (p := 2) (m := 4) (ty := .int) W rfl rfl
  obtain ⟨l3, g3, n3⟩ := gA (U := iv_1.2.2.2) (p := 3) (m := 17) (ty := .int) W rfl rfl
  obtain ⟨l4, g4, n4⟩ := gA (U := iv_1.2.2.2) (p := 4) (m := 60) (ty := .int) W rfl rfl
  obtain ⟨l5, g5, n5⟩ := gA (U := iv_1.2.2.2) (p := 5) (m := 5) (ty := .int) W rfl rfl
  obtain ⟨l6, g6, n6⟩ := gA (U := iv_1.2.2.2) (p := 6) (m := 4) (ty := .int) W rfl rfl
  obtain ⟨l7, g7, n7⟩ := gA (U := iv_1.2.2.2) (p := 7) (m := 4) (ty := .int) W rfl rfl
  obtain ⟨l34, g34, n34⟩ := gA (U := iv_1.2.2.2) (p := 34) (m := 2) (ty := .boolean) W rfl rfl
  obtain ⟨l60, g60, n60⟩ := gA (U := iv_1.2.2.2) (p := 60) (m := 288) (ty := .int) W rfl rfl
  obtain ⟨l61, g61, n61⟩ := gA (U := iv_1.2.2.2) (p := 61) (m := 2) (ty := .boolean) W rfl rfl
  obtain ⟨l62, g62, n62⟩ := gA (U := iv_1.2.2.2) (p := 62) (m := 4) (ty := .int) W rfl rfl
  obtain ⟨l64, g64, n64⟩ := gA (U := iv_1.2.2.2) (p := 64) (m := 96) (ty := .int) W rfl rfl
  obtain ⟨l65, g65, n65⟩ := gA (U := iv_1.2.2.2) (p := 65) (m := 4) (ty := .int) W rfl rfl
  have hput : ex_put fsB 4 (.ref 1) = tr 1 (nI n) b2 b3 b5 b6 b7 b8 b9 := ex_ext (m := 10) (by rw [ex_put_eq, List.length_set]; exact gL GB rfl) rfl (fun i hi => match i, hi with
    | 0, _ => vg_at_o rfl (gR GB (k := 0) rfl)
    | 1, _ => vg_at_o rfl a2
    | 2, _ => vg_at_o rfl eb2
    | 3, _ => vg_at_o rfl eb3
    | 4, _ => vg_at_put eb4
    | 5, _ => vg_at_o rfl eb5
    | 6, _ => vg_at_o rfl eb6
    | 7, _ => vg_at_o rfl eb7
    | 8, _ => vg_at_o rfl eb8
    | 9, _ => vg_at_o rfl eb9)
  have hD2 : fsD = td 1 d6 d7 d8 d9 d10 d11 d12 d13 := ex_ext (m := 14) (gL GD rfl) rfl (fun i hi => match i, hi with
    | 0, _ => gR GD (k := 0) rfl
    | 1, _ => gR GD (k := 1) rfl
    | 2, _ => gR GD (k := 2) rfl
    | 3, _ => gR GD (k := 3) rfl
    | 4, _ => gR GD (k := 4) rfl
    | 5, _ => gR GD (k := 5) rfl
    | 6, _ => ed6
    | 7, _ => ed7
    | 8, _ => ed8
    | 9, _ => ed9
    | 10, _ => ed10
    | 11, _ => ed11
    | 12, _ => ed12
    | 13, _ => ed13)
  have hM2 : fsM = nm (up (up (up (fun _ => 0) 0 m23) 1 m26) 2 m33) m2 m3 m6 m8 m9 m11 m12 m13 (nI n) m16 m17 m18 m19 m20 m21 := ex_ext (m := 34) (gL GM rfl) rfl (fun i hi => match i, hi with
    | 0, _ => gR GM (k := 0) rfl
    | 1, _ => gR GM (k := 1) rfl
    | 2, _ => em2
    | 3, _ => em3
    | 4, _ => gR GM (k := 4) rfl
    | 5, _ => gR GM (k := 5) rfl
    | 6, _ => em6
    | 7, _ => gR GM (k := 7) rfl
    | 8, _ => em8
    | 9, _ => em9
    | 10, _ => gR GM (k := 10) rfl
    | 11, _ => em11
    | 12, _ => em12
    | 13, _ => em13
    | 14, _ => gR GM (k := 14) rfl
    | 15, _ => a5
    | 16, _ => em16
    | 17, _ => em17
    | 18, _ => em18
    | 19, _ => em19
    | 20, _ => em20
    | 21, _ => em21
    | 22, _ => gR GM (k := 22) rfl
    | 23, _ => em23
    | 24, _ => gR GM (k := 24) rfl
    | 25, _ => gR GM (k := 25) rfl
    | 26, _ => em26
    | 27, _ => gR GM (k := 27) rfl
    | 28, _ => gR GM (k := 28) rfl
    | 29, _ => gR GM (k := 29) rfl
    | 30, _ => gR GM (k := 30) rfl
    | 31, _ => gR GM (k := 31) rfl
    | 32, _ => gR GM (k := 32) rfl
    | 33, _ => em33
    | k + 34, hk => absurd hk (by omega))
  have hC : cA w 1 B (up (up (up (up (up (up (up (up (fun _ => 0) 0 d6) 1 d7) 2 d8) 3 d9) 4 d10) 5 d11) 6 d12) 7 d13) (up (up (up (up (up (up (fun _ => []) 0 l2) 1 l3) 2 l4) 3 l5) 4 l6) 5 l7) := ⟨a3, by subst hD2; exact hD, fun k hk => match k, hk with
    | 0, _ => g2
    | 1, _ => g3
    | 2, _ => g4
    | 3, _ => g5
    | 4, _ => g6
    | 5, _ => g7⟩
  have hcB : cB (fun i => (T.getD i 0).toInt.toNat) n B := ⟨a8, a7, fun i hi => by
    obtain ⟨q1, q2, q3⟩ := a10 i hi
    show ((T.getD i 0).toInt.toNat < 128 ∧ (B.getD i 0).toInt = ((T.getD i 0).toInt.toNat : Int)) ∨ (128 ≤ (T.getD i 0).toInt.toNat ∧ (B.getD i 0).toInt = ((T.getD i 0).toInt.toNat : Int) - 256 ∧ (T.getD i 0).toInt.toNat < 256)
    rcases q3 with ⟨q3, q4⟩ | ⟨q3, q4⟩
    · exact Or.inl ⟨by omega, by rw [q4]; omega⟩
    · exact Or.inr ⟨by omega, by rw [q4]; omega, by omega⟩⟩
  have hrB : rB (fun i => (T.getD i 0).toInt.toNat) n T := ⟨a9, a7, fun i hi => by
    obtain ⟨q1, q2, q3⟩ := a10 i hi
    exact ⟨by show (T.getD i 0).toInt.toNat < 256; omega, tI_nI (by show _ = (((T.getD i 0).toInt.toNat : Nat) : Int); omega) (by show (T.getD i 0).toInt.toNat < 2 ^ 31; omega)⟩⟩
  have h59 : ex_at w 59 = some (rC (up (up (up (fun _ => 0) 0 m23) 1 m26) 2 m33) m2 m3 m6 m8 m9 m11 m12 m13 (nI n) m16 m17 m18 m19 m20 m21) := by rw [a4, hM2]
  obtain ⟨r, wx, wm, q1, q2, ⟨gs, q3, q4⟩, ⟨gs5, q5, q6⟩, q7, q8, q9⟩ := tx_full (X := []) (d := 31) (by decide) (by decide) hcB hrB hA (gR GA (k := 0) rfl) (gR GA (k := 6) rfl) (gR GA (k := 9) rfl) (gR GA (k := 10) rfl) e11 e12 a1 eb4 hput hC n2 n3 ⟨n4, n5, n6, n7⟩ g34 n34 h59 ⟨a6, g64, g65⟩ n64 n65 g60 n60 g61 n61 g62 n62
  refine ⟨r, wx, wm, q1, q2.up, ⟨0, B, T, gs, gs5, q3, q4, q7.trans a3, q5, q6, q8.trans a6, by omega, a8, a9, fun i hi => by omega⟩, ?_⟩
  rcases q9 with ⟨⟨fa1, k0⟩, ⟨g5, k59, k7⟩, kF⟩ | ⟨tf', ta', ST', WE', dn', an', wn', KX, KM, kS, -, k0, ⟨g5, k59, k5, k6, -⟩, k34, -, ⟨-, kz⟩, -, kF⟩
  · exact ⟨hY.text0 hA hM_ hM2 k0 k59 k7 (kF 33 (by decide) (by decide) (by decide) (by decide) (by decide) (by decide)) (kF 63 (by decide) (by decide) (by decide) (by decide) (by decide) (by decide)), 8, hM.text0 hA hM_ hM2 (gR GA (k := 9) rfl) k0 k59 k7 (fun q hq => by
      rcases hq with rfl | rfl | rfl | rfl | rfl | rfl | rfl | rfl <;> exact kF _ (by decide) (by decide) (by decide) (by decide) (by decide) (by decide))⟩
  · exact ⟨hY.text1 hA (gR GA (k := 8) rfl) k0 k59 k5 k6 (kF 33 (by decide) (by decide) (by decide) (by decide) (by decide) (by decide) (by decide) (by decide) (by decide) (by decide)) (kF 63 (by decide) (by decide) (by decide) (by decide) (by decide) (by decide) (by decide) (by decide) (by decide) (by decide)), 1, mR_text1 kS k34 kz⟩
