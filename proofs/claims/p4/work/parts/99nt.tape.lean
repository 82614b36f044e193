/-! THE TAPE IN THE LAW'S LOOP. Written by wip/law/tapegen.py. -/
def iv_0 : ai_S := ([(.ofNat 0, .ofNat 400)], [], [], [(false, some (.inr (.inr (7, [.inr (some (.ref 15)), .inr (some (.ref 17)), .inr (some (.ref 21)), .inr (some (.ref 26)), .inr (some (.ref 32)), .inr (some (.ref 35)), .inr (some (.ref 34)), .inr (some (.ref 50)), .inr (some (.ref 33)), .inr (some (.ref 1)), .inr (some (.ref 8)), .inl (false, (.ofNat 0, .ofNat 12, [])), .inl (false, (.ofNat 0, .ofNat 6, [])), .inl (false, (.ofNat 0, .ofNat 4, []))])))), (false, some (.inr (.inr (6, [.inr (some (.ref 2)), .inr (some (.ref 3)), .inr (some (.ref 4)), .inr (some (.ref 5)), .inr (some (.ref 6)), .inr (some (.ref 7)), .inl (false, (.ofNat 4, .ofNat 16, [])), .inl (false, (.ofNat 1, .ofNat 4, [])), .inl (false, (.negSucc 2147483647, .ofNat 2147483647, [])), .inl (false, (.negSucc 2147483647, .ofNat 2147483647, [])), .inl (false, (.negSucc 2147483647, .ofNat 2147483647, [])), .inl (false, (.ofNat 0, .ofNat 60, [])), .inl (false, (.ofNat 0, .ofNat 5, [])), .inl (false, (.ofNat 0, .ofNat 4, []))])))), (false, some (.inl (.int, [(4, (.negSucc 2147483647, .ofNat 2147483647, []))]))), (false, some (.inl (.int, [(17, (.negSucc 2147483647, .ofNat 2147483647, []))]))), (false, some (.inl (.int, [(60, (.negSucc 2147483647, .ofNat 2147483647, []))]))), (false, some (.inl (.int, [(5, (.negSucc 2147483647, .ofNat 2147483647, []))]))), (false, some (.inl (.int, [(4, (.negSucc 2147483647, .ofNat 2147483647, []))]))), (false, some (.inl (.int, [(4, (.negSucc 2147483647, .ofNat 2147483647, []))]))), (false, some (.inr (.inr (6, [.inr (some (.ref 9)), .inr (some (.ref 10)), .inr (some (.ref 11)), .inr (some (.ref 12)), .inr (some (.ref 13)), .inr (some (.ref 14)), .inl (false, (.ofNat 4, .ofNat 16, [])), .inl (false, (.ofNat 1, .ofNat 4, [])), .inl (false, (.negSucc 2147483647, .ofNat 2147483647, [])), .inl (false, (.negSucc 2147483647, .ofNat 2147483647, [])), .inl (false, (.negSucc 2147483647, .ofNat 2147483647, [])), .inl (false, (.ofNat 0, .ofNat 60, [])), .inl (false, (.ofNat 0, .ofNat 5, [])), .inl (false, (.ofNat 0, .ofNat 4, []))])))), (false, some (.inl (.int, [(4, (.negSucc 2147483647, .ofNat 2147483647, []))]))), (false, some (.inl (.int, [(17, (.negSucc 2147483647, .ofNat 2147483647, []))]))), (false, some (.inl (.int, [(60, (.negSucc 2147483647, .ofNat 2147483647, []))]))), (false, some (.inl (.int, [(5, (.negSucc 2147483647, .ofNat 2147483647, []))]))), (false, some (.inl (.int, [(4, (.negSucc 2147483647, .ofNat 2147483647, []))]))), (false, some (.inl (.int, [(4, (.negSucc 2147483647, .ofNat 2147483647, []))]))), (false, some (.inr (.inr (5, [.inr (some (.ref 16)), .inl (false, (.ofNat 0, .ofNat 400, [(0, .ofNat 0, .ofNat 0)])), .inl (false, (.ofNat 0, .ofNat 6, [])), .inl (false, (.ofNat 0, .ofNat 400, [])), .inr none, .inl (false, (.negSucc 2147483647, .ofNat 2147483647, [])), .inl (false, (.ofNat 0, .ofNat 400, [])), .inl (false, (.ofNat 0, .ofNat 3, [])), .inl (false, (.ofNat 0, .ofNat 400, [])), .inl (false, (.negSucc 2147483647, .ofNat 2147483647, []))])))), (false, some (.inl (.byte, [(400, (.negSucc 127, .ofNat 127, []))]))), (false, some (.inr (.inr (0, [.inr (some (.ref 18)), .inr (some (.ref 19)), .inr (some (.ref 20)), .inr none, .inl (false, (.ofNat 0, .ofNat 128, []))])))), (false, some (.inl (.int, [(128, (.ofNat 0, .ofNat 16, []))]))), (false, some (.inl (.int, [(128, (.negSucc 0, .ofNat 127, []))]))), (false, some (.inl (.int, [(17, (.negSucc 0, .ofNat 127, []))]))), (false, some (.inr (.inr (2, [.inr (some (.ref 17)), .inr (some (.ref 22)), .inr (some (.ref 23)), .inr (some (.ref 24)), .inr (some (.ref 25)), .inl (false, (.ofNat 0, .ofNat 5, [])), .inl (false, (.negSucc 2147483647, .ofNat 2147483647, []))])))), (false, some (.inl (.int, [(5, (.negSucc 2147483647, .ofNat 2147483647, []))]))), (false, some (.inl (.int, [(6, (.negSucc 2147483647, .ofNat 2147483647, []))]))), (false, some (.inl (.int, [(5, (.ofNat 0, .ofNat 16, []))]))), (false, some (.inl (.int, [(5, (.ofNat 0, .ofNat 16, []))]))), (false, some (.inr (.inr (1, [.inr (some (.ref 17)), .inr (some (.ref 27)), .inr (some (.ref 28)), .inr (some (.ref 29)), .inr (some (.ref 30)), .inr (some (.ref 31)), .inl (false, (.ofNat 0, .ofNat 4, [])), .inl (false, (.negSucc 2147483647, .ofNat 2147483647, []))])))), (false, some (.inl (.int, [(4, (.negSucc 2147483647, .ofNat 2147483647, []))]))), (false, some (.inl (.int, [(4, (.ofNat 0, .ofNat 4, []))]))), (false, some (.inl (.int, [(4, (.ofNat 0, .ofNat 16, []))]))), (false, some (.inl (.int, [(4, (.ofNat 0, .ofNat 4, []))]))), (false, some (.inl (.int, [(4, (.ofNat 0, .ofNat 16, []))]))), (false, some (.inr (.inr (3, [.inl (false, (.ofNat 0, .ofNat 16, [])), .inl (false, (.negSucc 2147483647, .ofNat 2147483647, [])), .inl (false, (.negSucc 2147483647, .ofNat 2147483647, [])), .inl (false, (.negSucc 2147483647, .ofNat 2147483647, [])), .inl (false, (.negSucc 2147483647, .ofNat 2147483647, []))])))), (false, some (.inl (.int, [(12, (.ofNat 0, .ofNat 16, []))]))), (false, some (.inl (.boolean, [(2, (.ofNat 0, .ofNat 1, []))]))), (false, some (.inr (.inl (6, [some 36, some 43])))), (false, some (.inr (.inr (6, [.inr (some (.ref 37)), .inr (some (.ref 38)), .inr (some (.ref 39)), .inr (some (.ref 40)), .inr (some (.ref 41)), .inr (some (.ref 42)), .inl (false, (.ofNat 4, .ofNat 16, [])), .inl (false, (.ofNat 1, .ofNat 4, [])), .inl (false, (.negSucc 2147483647, .ofNat 2147483647, [])), .inl (false, (.negSucc 2147483647, .ofNat 2147483647, [])), .inl (false, (.negSucc 2147483647, .ofNat 2147483647, [])), .inl (false, (.ofNat 0, .ofNat 60, [])), .inl (false, (.ofNat 0, .ofNat 5, [])), .inl (false, (.ofNat 0, .ofNat 4, []))])))), (false, some (.inl (.int, [(4, (.negSucc 2147483647, .ofNat 2147483647, []))]))), (false, some (.inl (.int, [(17, (.negSucc 2147483647, .ofNat 2147483647, []))]))), (false, some (.inl (.int, [(60, (.negSucc 2147483647, .ofNat 2147483647, []))]))), (false, some (.inl (.int, [(5, (.negSucc 2147483647, .ofNat 2147483647, []))]))), (false, some (.inl (.int, [(4, (.negSucc 2147483647, .ofNat 2147483647, []))]))), (false, some (.inl (.int, [(4, (.negSucc 2147483647, .ofNat 2147483647, []))]))), (false, some (.inr (.inr (6, [.inr (some (.ref 44)), .inr (some (.ref 45)), .inr (some (.ref 46)), .inr (some (.ref 47)), .inr (some (.ref 48)), .inr (some (.ref 49)), .inl (false, (.ofNat 4, .ofNat 16, [])), .inl (false, (.ofNat 1, .ofNat 4, [])), .inl (false, (.negSucc 2147483647, .ofNat 2147483647, [])), .inl (false, (.negSucc 2147483647, .ofNat 2147483647, [])), .inl (false, (.negSucc 2147483647, .ofNat 2147483647, [])), .inl (false, (.ofNat 0, .ofNat 60, [])), .inl (false, (.ofNat 0, .ofNat 5, [])), .inl (false, (.ofNat 0, .ofNat 4, []))])))), (false, some (.inl (.int, [(4, (.negSucc 2147483647, .ofNat 2147483647, []))]))), (false, some (.inl (.int, [(17, (.negSucc 2147483647, .ofNat 2147483647, []))]))), (false, some (.inl (.int, [(60, (.negSucc 2147483647, .ofNat 2147483647, []))]))), (false, some (.inl (.int, [(5, (.negSucc 2147483647, .ofNat 2147483647, []))]))), (false, some (.inl (.int, [(4, (.negSucc 2147483647, .ofNat 2147483647, []))]))), (false, some (.inl (.int, [(4, (.negSucc 2147483647, .ofNat 2147483647, []))]))), (false, some (.inr (.inl (4, [some 51, some 53, some 55, some 57])))), (false, some (.inr (.inr (4, [.inr (some (.ref 52)), .inl (false, (.negSucc 0, .ofNat 2, [])), .inl (false, (.ofNat 0, .ofNat 40, []))])))), (false, some (.inl (.int, [(40, (.negSucc 2147483647, .ofNat 2147483647, []))]))), (false, some (.inr (.inr (4, [.inr (some (.ref 54)), .inl (false, (.negSucc 0, .ofNat 2, [])), .inl (false, (.ofNat 0, .ofNat 40, []))])))), (false, some (.inl (.int, [(40, (.negSucc 2147483647, .ofNat 2147483647, []))]))), (false, some (.inr (.inr (4, [.inr (some (.ref 56)), .inl (false, (.negSucc 0, .ofNat 2, [])), .inl (false, (.ofNat 0, .ofNat 40, []))])))), (false, some (.inl (.int, [(40, (.negSucc 2147483647, .ofNat 2147483647, []))]))), (false, some (.inr (.inr (4, [.inr (some (.ref 58)), .inl (false, (.negSucc 0, .ofNat 2, [])), .inl (false, (.ofNat 0, .ofNat 40, []))])))), (false, some (.inl (.int, [(40, (.negSucc 2147483647, .ofNat 2147483647, []))]))), (false, some (.inr (.inr (8, [.inr (some (.ref 60)), .inr (some (.ref 61)), .inl (false, (.ofNat 4, .ofNat 16, [])), .inl (false, (.ofNat 1, .ofNat 4, [])), .inr (some (.ref 62)), .inr (some (.ref 63)), .inl (false, (.ofNat 0, .ofNat 12, [])), .inr (some (.ref 64)), .inl (false, (.ofNat 0, .ofNat 16, [])), .inl (false, (.ofNat 0, .ofNat 4, [])), .inr (some (.ref 65)), .inl (false, (.negSucc 2147483647, .ofNat 2147483647, [])), .inl (false, (.ofNat 0, .ofNat 16, [])), .inl (false, (.negSucc 3, .ofNat 3, [])), .inr (some (.ref 66)), .inl (false, (.ofNat 0, .ofNat 400, [(0, .ofNat 0, .ofNat 0)])), .inl (false, (.ofNat 0, .ofNat 400, [])), .inl (false, (.ofNat 0, .ofNat 400, [])), .inl (false, (.ofNat 0, .ofNat 3, [])), .inl (false, (.negSucc 2147483647, .ofNat 2147483647, [])), .inl (false, (.ofNat 0, .ofNat 6, [])), .inl (false, (.ofNat 0, .ofNat 400, [])), .inr (some (.ref 67)), .inl (false, (.ofNat 0, .ofNat 130, [])), .inr (some (.ref 68)), .inr (some (.ref 69)), .inl (false, (.negSucc 2147483647, .ofNat 2147483647, [])), .inr (some (.ref 70)), .inr (some (.ref 71)), .inr (some (.ref 72)), .inr (some (.ref 73)), .inr (some (.ref 74)), .inr (some (.ref 75)), .inl (false, (.ofNat 0, .ofNat 4, []))])))), (false, some (.inl (.int, [(1, (.ofNat 0, .ofNat 60, [])), (60, (.ofNat 0, .ofNat 16, [])), (17, (.negSucc 3, .ofNat 3, [])), (1, (.ofNat 0, .ofNat 20, [])), (1, (.ofNat 0, .ofNat 1, [])), (1, (.negSucc 3, .ofNat 2, [])), (1, (.ofNat 0, .ofNat 5, [])), (5, (.ofNat 0, .ofNat 3, [])), (1, (.ofNat 0, .ofNat 4, [])), (8, (.ofNat 0, .ofNat 4, [])), (1, (.ofNat 0, .ofNat 60, [])), (60, (.ofNat 0, .ofNat 16, [])), (17, (.negSucc 3, .ofNat 3, [])), (1, (.ofNat 0, .ofNat 20, [])), (1, (.ofNat 0, .ofNat 1, [])), (1, (.negSucc 3, .ofNat 2, [])), (1, (.ofNat 0, .ofNat 5, [])), (5, (.ofNat 0, .ofNat 3, [])), (1, (.ofNat 0, .ofNat 4, [])), (8, (.ofNat 0, .ofNat 4, [])), (1, (.ofNat 0, .ofNat 60, [])), (60, (.ofNat 0, .ofNat 16, [])), (17, (.negSucc 3, .ofNat 3, [])), (1, (.ofNat 0, .ofNat 20, [])), (1, (.ofNat 0, .ofNat 1, [])), (1, (.negSucc 3, .ofNat 2, [])), (1, (.ofNat 0, .ofNat 5, [])), (5, (.ofNat 0, .ofNat 3, [])), (1, (.ofNat 0, .ofNat 4, [])), (8, (.ofNat 0, .ofNat 4, []))]))), (false, some (.inl (.boolean, [(2, (.ofNat 0, .ofNat 1, []))]))), (false, some (.inl (.int, [(4, (.ofNat 1, .ofNat 9, []))]))), (false, some (.inl (.int, [(12, (.ofNat 0, .ofNat 16, []))]))), (false, some (.inl (.int, [(1, (.ofNat 0, .ofNat 60, [])), (60, (.ofNat 0, .ofNat 16, [])), (17, (.negSucc 3, .ofNat 3, [])), (1, (.ofNat 0, .ofNat 20, [])), (1, (.ofNat 0, .ofNat 1, [])), (1, (.negSucc 3, .ofNat 2, [])), (1, (.ofNat 0, .ofNat 5, [])), (5, (.ofNat 0, .ofNat 3, [])), (1, (.ofNat 0, .ofNat 4, [])), (8, (.ofNat 0, .ofNat 4, []))]))), (false, some (.inl (.int, [(4, (.ofNat 1, .ofNat 9, []))]))), (false, some (.inl (.int, [(400, (.ofNat 0, .ofNat 255, []))]))), (false, some (.inl (.int, [(130, (.negSucc 3, .ofNat 16, []))]))), (false, some (.inl (.int, [(5, (.ofNat 0, .ofNat 3, []))]))), (false, some (.inl (.int, [(5, (.negSucc 3, .ofNat 16, []))]))), (false, some (.inl (.int, [(17, (.negSucc 3, .ofNat 3, []))]))), (false, some (.inl (.int, [(1, (.ofNat 0, .ofNat 128, [])), (1, (.ofNat 0, .ofNat 128, [])), (1, (.ofNat 0, .ofNat 128, [])), (1, (.ofNat 0, .ofNat 128, [])), (1, (.ofNat 0, .ofNat 128, []))]))), (false, some (.inl (.int, [(5, (.ofNat 0, .ofNat 128, []))]))), (false, some (.inl (.int, [(1, (.negSucc 3, .ofNat 2, [])), (1, (.negSucc 3, .ofNat 2, [])), (1, (.negSucc 3, .ofNat 2, [])), (1, (.negSucc 3, .ofNat 2, []))]))), (false, some (.inl (.int, [(1, (.ofNat 0, .ofNat 40, [])), (1, (.ofNat 0, .ofNat 40, [])), (1, (.ofNat 0, .ofNat 40, [])), (1, (.ofNat 0, .ofNat 40, []))]))), (false, some (.inl (.int, [(160, (.negSucc 2147483647, .ofNat 2147483647, []))])))])
def iv_1 : ai_S := ([(.ofNat 0, .ofNat 400)], [], [], [(false, some (.inr (.inr (7, [.inr (some (.ref 15)), .inr (some (.ref 17)), .inr (some (.ref 21)), .inr (some (.ref 26)), .inr (some (.ref 32)), .inr (some (.ref 35)), .inr (some (.ref 34)), .inr (some (.ref 50)), .inr (some (.ref 33)), .inr (some (.ref 8)), .inr (some (.ref 1)), .inl (false, (.ofNat 0, .ofNat 12, [])), .inl (false, (.ofNat 0, .ofNat 6, [])), .inl (false, (.ofNat 0, .ofNat 4, []))])))), (false, some (.inr (.inr (6, [.inr (some (.ref 2)), .inr (some (.ref 3)), .inr (some (.ref 4)), .inr (some (.ref 5)), .inr (some (.ref 6)), .inr (some (.ref 7)), .inl (false, (.ofNat 4, .ofNat 16, [])), .inl (false, (.ofNat 1, .ofNat 4, [])), .inl (false, (.negSucc 2147483647, .ofNat 2147483647, [])), .inl (false, (.negSucc 2147483647, .ofNat 2147483647, [])), .inl (false, (.negSucc 2147483647, .ofNat 2147483647, [])), .inl (false, (.ofNat 0, .ofNat 60, [])), .inl (false, (.ofNat 0, .ofNat 5, [])), .inl (false, (.ofNat 0, .ofNat 4, []))])))), (false, some (.inl (.int, [(4, (.negSucc 2147483647, .ofNat 2147483647, []))]))), (false, some (.inl (.int, [(17, (.negSucc 2147483647, .ofNat 2147483647, []))]))), (false, some (.inl (.int, [(60, (.negSucc 2147483647, .ofNat 2147483647, []))]))), (false, some (.inl (.int, [(5, (.negSucc 2147483647, .ofNat 2147483647, []))]))), (false, some (.inl (.int, [(4, (.negSucc 2147483647, .ofNat 2147483647, []))]))), (false, some (.inl (.int, [(4, (.negSucc 2147483647, .ofNat 2147483647, []))]))), (false, some (.inr (.inr (6, [.inr (some (.ref 9)), .inr (some (.ref 10)), .inr (some (.ref 11)), .inr (some (.ref 12)), .inr (some (.ref 13)), .inr (some (.ref 14)), .inl (false, (.ofNat 4, .ofNat 16, [])), .inl (false, (.ofNat 1, .ofNat 4, [])), .inl (false, (.negSucc 2147483647, .ofNat 2147483647, [])), .inl (false, (.negSucc 2147483647, .ofNat 2147483647, [])), .inl (false, (.negSucc 2147483647, .ofNat 2147483647, [])), .inl (false, (.ofNat 0, .ofNat 60, [])), .inl (false, (.ofNat 0, .ofNat 5, [])), .inl (false, (.ofNat 0, .ofNat 4, []))])))), (false, some (.inl (.int, [(4, (.negSucc 2147483647, .ofNat 2147483647, []))]))), (false, some (.inl (.int, [(17, (.negSucc 2147483647, .ofNat 2147483647, []))]))), (false, some (.inl (.int, [(60, (.negSucc 2147483647, .ofNat 2147483647, []))]))), (false, some (.inl (.int, [(5, (.negSucc 2147483647, .ofNat 2147483647, []))]))), (false, some (.inl (.int, [(4, (.negSucc 2147483647, .ofNat 2147483647, []))]))), (false, some (.inl (.int, [(4, (.negSucc 2147483647, .ofNat 2147483647, []))]))), (false, some (.inr (.inr (5, [.inr (some (.ref 16)), .inl (false, (.ofNat 0, .ofNat 400, [(0, .ofNat 0, .ofNat 0)])), .inl (false, (.ofNat 0, .ofNat 6, [])), .inl (false, (.ofNat 0, .ofNat 400, [])), .inr none, .inl (false, (.negSucc 2147483647, .ofNat 2147483647, [])), .inl (false, (.ofNat 0, .ofNat 400, [])), .inl (false, (.ofNat 0, .ofNat 3, [])), .inl (false, (.ofNat 0, .ofNat 400, [])), .inl (false, (.negSucc 2147483647, .ofNat 2147483647, []))])))), (false, some (.inl (.byte, [(400, (.negSucc 127, .ofNat 127, []))]))), (false, some (.inr (.inr (0, [.inr (some (.ref 18)), .inr (some (.ref 19)), .inr (some (.ref 20)), .inr none, .inl (false, (.ofNat 0, .ofNat 128, []))])))), (false, some (.inl (.int, [(128, (.ofNat 0, .ofNat 16, []))]))), (false, some (.inl (.int, [(128, (.negSucc 0, .ofNat 127, []))]))), (false, some (.inl (.int, [(17, (.negSucc 0, .ofNat 127, []))]))), (false, some (.inr (.inr (2, [.inr (some (.ref 17)), .inr (some (.ref 22)), .inr (some (.ref 23)), .inr (some (.ref 24)), .inr (some (.ref 25)), .inl (false, (.ofNat 0, .ofNat 5, [])), .inl (false, (.negSucc 2147483647, .ofNat 2147483647, []))])))), (false, some (.inl (.int, [(5, (.negSucc 2147483647, .ofNat 2147483647, []))]))), (false, some (.inl (.int, [(6, (.negSucc 2147483647, .ofNat 2147483647, []))]))), (false, some (.inl (.int, [(5, (.ofNat 0, .ofNat 16, []))]))), (false, some (.inl (.int, [(5, (.ofNat 0, .ofNat 16, []))]))), (false, some (.inr (.inr (1, [.inr (some (.ref 17)), .inr (some (.ref 27)), .inr (some (.ref 28)), .inr (some (.ref 29)), .inr (some (.ref 30)), .inr (some (.ref 31)), .inl (false, (.ofNat 0, .ofNat 4, [])), .inl (false, (.negSucc 2147483647, .ofNat 2147483647, []))])))), (false, some (.inl (.int, [(4, (.negSucc 2147483647, .ofNat 2147483647, []))]))), (false, some (.inl (.int, [(4, (.ofNat 0, .ofNat 4, []))]))), (false, some (.inl (.int, [(4, (.ofNat 0, .ofNat 16, []))]))), (false, some (.inl (.int, [(4, (.ofNat 0, .ofNat 4, []))]))), (false, some (.inl (.int, [(4, (.ofNat 0, .ofNat 16, []))]))), (false, some (.inr (.inr (3, [.inl (false, (.ofNat 0, .ofNat 16, [])), .inl (false, (.negSucc 2147483647, .ofNat 2147483647, [])), .inl (false, (.negSucc 2147483647, .ofNat 2147483647, [])), .inl (false, (.negSucc 2147483647, .ofNat 2147483647, [])), .inl (false, (.negSucc 2147483647, .ofNat 2147483647, []))])))), (false, some (.inl (.int, [(12, (.ofNat 0, .ofNat 16, []))]))), (false, some (.inl (.boolean, [(2, (.ofNat 0, .ofNat 1, []))]))), (false, some (.inr (.inl (6, [some 36, some 43])))), (false, some (.inr (.inr (6, [.inr (some (.ref 37)), .inr (some (.ref 38)), .inr (some (.ref 39)), .inr (some (.ref 40)), .inr (some (.ref 41)), .inr (some (.ref 42)), .inl (false, (.ofNat 4, .ofNat 16, [])), .inl (false, (.ofNat 1, .ofNat 4, [])), .inl (false, (.negSucc 2147483647, .ofNat 2147483647, [])), .inl (false, (.negSucc 2147483647, .ofNat 2147483647, [])), .inl (false, (.negSucc 2147483647, .ofNat 2147483647, [])), .inl (false, (.ofNat 0, .ofNat 60, [])), .inl (false, (.ofNat 0, .ofNat 5, [])), .inl (false, (.ofNat 0, .ofNat 4, []))])))), (false, some (.inl (.int, [(4, (.negSucc 2147483647, .ofNat 2147483647, []))]))), (false, some (.inl (.int, [(17, (.negSucc 2147483647, .ofNat 2147483647, []))]))), (false, some (.inl (.int, [(60, (.negSucc 2147483647, .ofNat 2147483647, []))]))), (false, some (.inl (.int, [(5, (.negSucc 2147483647, .ofNat 2147483647, []))]))), (false, some (.inl (.int, [(4, (.negSucc 2147483647, .ofNat 2147483647, []))]))), (false, some (.inl (.int, [(4, (.negSucc 2147483647, .ofNat 2147483647, []))]))), (false, some (.inr (.inr (6, [.inr (some (.ref 44)), .inr (some (.ref 45)), .inr (some (.ref 46)), .inr (some (.ref 47)), .inr (some (.ref 48)), .inr (some (.ref 49)), .inl (false, (.ofNat 4, .ofNat 16, [])), .inl (false, (.ofNat 1, .ofNat 4, [])), .inl (false, (.negSucc 2147483647, .ofNat 2147483647, [])), .inl (false, (.negSucc 2147483647, .ofNat 2147483647, [])), .inl (false, (.negSucc 2147483647, .ofNat 2147483647, [])), .inl (false, (.ofNat 0, .ofNat 60, [])), .inl (false, (.ofNat 0, .ofNat 5, [])), .inl (false, (.ofNat 0, .ofNat 4, []))])))), (false, some (.inl (.int, [(4, (.negSucc 2147483647, .ofNat 2147483647, []))]))), (false, some (.inl (.int, [(17, (.negSucc 2147483647, .ofNat 2147483647, []))]))), (false, some (.inl (.int, [(60, (.negSucc 2147483647, .ofNat 2147483647, []))]))), (false, some (.inl (.int, [(5, (.negSucc 2147483647, .ofNat 2147483647, []))]))), (false, some (.inl (.int, [(4, (.negSucc 2147483647, .ofNat 2147483647, []))]))), (false, some (.inl (.int, [(4, (.negSucc 2147483647, .ofNat 2147483647, []))]))), (false, some (.inr (.inl (4, [some 51, some 53, some 55, some 57])))), (false, some (.inr (.inr (4, [.inr (some (.ref 52)), .inl (false, (.negSucc 0, .ofNat 2, [])), .inl (false, (.ofNat 0, .ofNat 40, []))])))), (false, some (.inl (.int, [(40, (.negSucc 2147483647, .ofNat 2147483647, []))]))), (false, some (.inr (.inr (4, [.inr (some (.ref 54)), .inl (false, (.negSucc 0, .ofNat 2, [])), .inl (false, (.ofNat 0, .ofNat 40, []))])))), (false, some (.inl (.int, [(40, (.negSucc 2147483647, .ofNat 2147483647, []))]))), (false, some (.inr (.inr (4, [.inr (some (.ref 56)), .inl (false, (.negSucc 0, .ofNat 2, [])), .inl (false, (.ofNat 0, .ofNat 40, []))])))), (false, some (.inl (.int, [(40, (.negSucc 2147483647, .ofNat 2147483647, []))]))), (false, some (.inr (.inr (4, [.inr (some (.ref 58)), .inl (false, (.negSucc 0, .ofNat 2, [])), .inl (false, (.ofNat 0, .ofNat 40, []))])))), (false, some (.inl (.int, [(40, (.negSucc 2147483647, .ofNat 2147483647, []))]))), (false, some (.inr (.inr (8, [.inr (some (.ref 60)), .inr (some (.ref 61)), .inl (false, (.ofNat 4, .ofNat 16, [])), .inl (false, (.ofNat 1, .ofNat 4, [])), .inr (some (.ref 62)), .inr (some (.ref 63)), .inl (false, (.ofNat 0, .ofNat 12, [])), .inr (some (.ref 64)), .inl (false, (.ofNat 0, .ofNat 16, [])), .inl (false, (.ofNat 0, .ofNat 4, [])), .inr (some (.ref 65)), .inl (false, (.negSucc 2147483647, .ofNat 2147483647, [])), .inl (false, (.ofNat 0, .ofNat 16, [])), .inl (false, (.negSucc 3, .ofNat 3, [])), .inr (some (.ref 66)), .inl (false, (.ofNat 0, .ofNat 400, [(0, .ofNat 0, .ofNat 0)])), .inl (false, (.ofNat 0, .ofNat 400, [])), .inl (false, (.ofNat 0, .ofNat 400, [])), .inl (false, (.ofNat 0, .ofNat 3, [])), .inl (false, (.negSucc 2147483647, .ofNat 2147483647, [])), .inl (false, (.ofNat 0, .ofNat 6, [])), .inl (false, (.ofNat 0, .ofNat 400, [])), .inr (some (.ref 67)), .inl (false, (.ofNat 0, .ofNat 130, [])), .inr (some (.ref 68)), .inr (some (.ref 69)), .inl (false, (.negSucc 2147483647, .ofNat 2147483647, [])), .inr (some (.ref 70)), .inr (some (.ref 71)), .inr (some (.ref 72)), .inr (some (.ref 73)), .inr (some (.ref 74)), .inr (some (.ref 75)), .inl (false, (.ofNat 0, .ofNat 4, []))])))), (false, some (.inl (.int, [(1, (.ofNat 0, .ofNat 60, [])), (60, (.ofNat 0, .ofNat 16, [])), (17, (.negSucc 3, .ofNat 3, [])), (1, (.ofNat 0, .ofNat 20, [])), (1, (.ofNat 0, .ofNat 1, [])), (1, (.negSucc 3, .ofNat 2, [])), (1, (.ofNat 0, .ofNat 5, [])), (5, (.ofNat 0, .ofNat 3, [])), (1, (.ofNat 0, .ofNat 4, [])), (8, (.ofNat 0, .ofNat 4, [])), (1, (.ofNat 0, .ofNat 60, [])), (60, (.ofNat 0, .ofNat 16, [])), (17, (.negSucc 3, .ofNat 3, [])), (1, (.ofNat 0, .ofNat 20, [])), (1, (.ofNat 0, .ofNat 1, [])), (1, (.negSucc 3, .ofNat 2, [])), (1, (.ofNat 0, .ofNat 5, [])), (5, (.ofNat 0, .ofNat 3, [])), (1, (.ofNat 0, .ofNat 4, [])), (8, (.ofNat 0, .ofNat 4, [])), (1, (.ofNat 0, .ofNat 60, [])), (60, (.ofNat 0, .ofNat 16, [])), (17, (.negSucc 3, .ofNat 3, [])), (1, (.ofNat 0, .ofNat 20, [])), (1, (.ofNat 0, .ofNat 1, [])), (1, (.negSucc 3, .ofNat 2, [])), (1, (.ofNat 0, .ofNat 5, [])), (5, (.ofNat 0, .ofNat 3, [])), (1, (.ofNat 0, .ofNat 4, [])), (8, (.ofNat 0, .ofNat 4, []))]))), (false, some (.inl (.boolean, [(2, (.ofNat 0, .ofNat 1, []))]))), (false, some (.inl (.int, [(4, (.ofNat 1, .ofNat 9, []))]))), (false, some (.inl (.int, [(12, (.ofNat 0, .ofNat 16, []))]))), (false, some (.inl (.int, [(1, (.ofNat 0, .ofNat 60, [])), (60, (.ofNat 0, .ofNat 16, [])), (17, (.negSucc 3, .ofNat 3, [])), (1, (.ofNat 0, .ofNat 20, [])), (1, (.ofNat 0, .ofNat 1, [])), (1, (.negSucc 3, .ofNat 2, [])), (1, (.ofNat 0, .ofNat 5, [])), (5, (.ofNat 0, .ofNat 3, [])), (1, (.ofNat 0, .ofNat 4, [])), (8, (.ofNat 0, .ofNat 4, []))]))), (false, some (.inl (.int, [(4, (.ofNat 1, .ofNat 9, []))]))), (false, some (.inl (.int, [(400, (.ofNat 0, .ofNat 255, []))]))), (false, some (.inl (.int, [(130, (.negSucc 3, .ofNat 16, []))]))), (false, some (.inl (.int, [(5, (.ofNat 0, .ofNat 3, []))]))), (false, some (.inl (.int, [(5, (.negSucc 3, .ofNat 16, []))]))), (false, some (.inl (.int, [(17, (.negSucc 3, .ofNat 3, []))]))), (false, some (.inl (.int, [(1, (.ofNat 0, .ofNat 128, [])), (1, (.ofNat 0, .ofNat 128, [])), (1, (.ofNat 0, .ofNat 128, [])), (1, (.ofNat 0, .ofNat 128, [])), (1, (.ofNat 0, .ofNat 128, []))]))), (false, some (.inl (.int, [(5, (.ofNat 0, .ofNat 128, []))]))), (false, some (.inl (.int, [(1, (.negSucc 3, .ofNat 2, [])), (1, (.negSucc 3, .ofNat 2, [])), (1, (.negSucc 3, .ofNat 2, [])), (1, (.negSucc 3, .ofNat 2, []))]))), (false, some (.inl (.int, [(1, (.ofNat 0, .ofNat 40, [])), (1, (.ofNat 0, .ofNat 40, [])), (1, (.ofNat 0, .ofNat 40, [])), (1, (.ofNat 0, .ofNat 40, []))]))), (false, some (.inl (.int, [(160, (.negSucc 2147483647, .ofNat 2147483647, []))])))])
def iv_l : List ai_L := [.inr (15, 1)]
def iv_s : List (ai_S × List ai_L) := [(iv_0, iv_l), (iv_1, iv_l)]
def tv_I (w : ex_W) : Prop := pr_I iv_s w ∧ tpR w
def tv_F : List Nat := [15, 16, 66]
section TV
variable {ρ : List Int} {w : ex_W}
theorem gI {vs : List ai_V} {fs : List Value} {k : Nat} {n : ai_N} (G : ai_gl ρ vs (fs.map some)) (hk : ex_at vs k = some (.inl (false, n))) : ∃ v, ex_at fs k = some (.int v) ∧ ai_gn ρ n v.toInt := by
  obtain ⟨v, h1, h2⟩ := fp_f G hk
  obtain ⟨i, rfl, h3⟩ := h2.int
  exact ⟨i, h1, h3⟩
theorem gR {vs : List ai_V} {fs : List Value} {k r : Nat} (G : ai_gl ρ vs (fs.map some)) (hk : ex_at vs k = some (.inr (some (.ref r)))) : ex_at fs k = some (.ref r) := by
  obtain ⟨v, h1, h2⟩ := fp_f G hk
  cases (show some v = some (.ref r) from h2)
  exact h1
theorem gL {vs : List ai_V} {fs : List Value} {m : Nat} (G : ai_gl ρ vs (fs.map some)) (h : vs.length = m) : fs.length = m := by
  have := G.1
  rw [List.length_map] at this
  omega
theorem gA {U : ai_W} {w0 : ex_W} {p m : Nat} {ch : Bool} {ty : FieldType} {s : List (Nat × ai_N)} (H : ai_gw ρ w0 U w) (h : ex_at U p = some (ch, some (.inl (ty, s)))) (hm : ai_sn s = m) : ∃ l, ex_at w p = some (.inl (ty, l)) ∧ l.length = m := by
  obtain ⟨l, h1, h2⟩ := fp_r H h
  exact ⟨l, h1, h2.len.trans hm⟩
theorem ex_ext {a b : List Value} {m : Nat} (ha : a.length = m) (hb : b.length = m) (h : ∀ i, i < m → ex_at a i = ex_at b i) : a = b := by
  apply List.ext_getElem?
  intro i
  by_cases hi : i < m
  · have := h i hi
    rw [ex_at_eq, ex_at_eq] at this
    exact this
  · rw [List.getElem?_eq_none (by omega), List.getElem?_eq_none (by omega)]
/-- the tape's length in both -/
def jE (w : ex_W) : Prop := ∃ fs fs5 L, ex_at w 15 = some (.inr (.inr (5, fs))) ∧ ex_at fs 1 = some (.int L) ∧ ex_at w 59 = some (.inr (.inr (8, fs5))) ∧ ex_at fs5 15 = some (.int L)
theorem jE_of {I : ai_S} {vs15 vs59 : List ai_V} {ch15 ch59 : Bool} (i15 : ex_at I.2.2.2 15 = some (ch15, some (.inr (.inr (5, vs15))))) (j15 : ex_at vs15 1 = some (.inl (false, 0, 400, [(0, 0, 0)]))) (i59 : ex_at I.2.2.2 59 = some (ch59, some (.inr (.inr (8, vs59))))) (j59 : ex_at vs59 15 = some (.inl (false, 0, 400, [(0, 0, 0)]))) (H : ai_g ρ w I [] [] w) : jE w := by
  obtain ⟨fs15, u15, a15, b15, c15, d15⟩ := pe_get H i15 j15
  obtain ⟨fs59, u59, a59, b59, c59, d59⟩ := pe_get H i59 j59
  obtain ⟨L, rfl, g15⟩ := d15.int
  obtain ⟨L', rfl, g59⟩ := d59.int
  obtain ⟨y, y1, y2, y3⟩ := g15.2.2 _ List.mem_cons_self
  obtain ⟨y', y1', y2', y3'⟩ := g59.2.2 _ List.mem_cons_self
  obtain rfl : y = y' := Option.some.inj (y1.symm.trans y1')
  have y2 : (0 : Int) ≤ L.toInt - y := y2
  have y3 : L.toInt - y ≤ (0 : Int) := y3
  have y2' : (0 : Int) ≤ L'.toInt - y := y2'
  have y3' : L'.toInt - y ≤ (0 : Int) := y3'
  obtain rfl : L' = L := Int32.toInt_inj.mp (by omega)
  exact ⟨fs15, fs59, L', a15, c15, a59, c59⟩
theorem jE_I (hw : pr_I iv_s w) : jE w := by
  obtain ⟨I, hI, ρ, H⟩ := hw
  rcases List.mem_cons.mp hI with rfl | hI
  · exact jE_of (I := iv_0) rfl rfl rfl rfl H
  · obtain rfl := List.mem_singleton.mp hI
    exact jE_of (I := iv_1) rfl rfl rfl rfl H
theorem tpR.same {w' : ex_W} (h : tpR w) (e : ∀ p ∈ tv_F, ex_at w' p = ex_at w p) (j : jE w') : tpR w' := by
  obtain ⟨n, B, T, fs, fs5, a1, a2, a3, a4, a5, a6, a7⟩ := h
  obtain ⟨gs, gs5, L, b1, b2, b3, b4⟩ := j
  have e15 := (e 15 (by decide)).trans a1
  cases (show some (Sum.inr (Sum.inr (5, gs))) = some (.inr (.inr (5, fs))) from b1.symm.trans e15)
  cases (show some (Value.int L) = some (.int (nI n)) from b2.symm.trans a2)
  exact ⟨n, B, T, _, gs5, b1, b2, (e 16 (by decide)).trans a3, b3, b4, (e 66 (by decide)).trans a6, a7⟩
/-- end -/
theorem en_both {x : Int32} {gs : List Value} (h0 : ex_at w 0 = some (.inr (.inr (7, gs)))) (g0 : ex_at gs 0 = some (.ref 15)) (h : tpR w) : ∃ r wx wm, Go [] 39 mt_5 (ex_ent mt_5 [.ref 0, .int x]) w (some (.int r), wx) ∧ Go [] 39 mt_6 (ex_ent mt_6 [.ref 59, .int x]) wx (some (.int r), wm) ∧ tpR wm := by
  obtain ⟨n, B, T, fs, fs5, a1, a2, a3, a4, a5, a6, a7, a8, a9, a10⟩ := id h
  have en : (nI n).toInt = (n : Int) := nI_toInt (by omega)
  by_cases c1 : x.toInt < 0
  · exact ⟨_, w, w, ve_c1 h0 g0 a1 a2 (kq_lt_t c1), ve_m1 (d := 38) a4 a5 (vin_f (by rw [e64_0, Int32.toInt_toInt64]; omega)) (by decide), h⟩
  · by_cases c2 : x.toInt ≤ (nI n).toInt
    · have ex : x = nI x.toInt.toNat := tI_nI (by omega) (by omega)
      refine ⟨_, _, _, ve_c3 h0 g0 a1 a2 (kq_lt_f (by omega)) (kp_le_t c2), ve_m2 (d := 38) (vg_at_o rfl a4) a5 (vin_t (by rw [e64_0, Int32.toInt_toInt64]; omega) (by rw [Int32.toInt_toInt64, Int32.toInt_toInt64]; omega)) (by decide), x.toInt.toNat, B, T, _, _, vg_at_o rfl (vg_at_put a1), by rw [← ex]; exact vg_at_put a2, vg_at_o rfl (vg_at_o rfl a3), vg_at_put (vg_at_o rfl a4), by rw [← ex]; exact vg_at_put a5, vg_at_o rfl (vg_at_o rfl a6), by omega, a8, a9, fun i hi => a10 i (by omega)⟩
    · exact ⟨_, w, w, ve_c2 h0 g0 a1 a2 (kq_lt_f (by omega)) (kp_le_f (by omega)), ve_m1 (d := 38) a4 a5 (vin_f (by rw [e64_0, Int32.toInt_toInt64, Int32.toInt_toInt64]; omega)) (by decide), h⟩
theorem fe_st0 {vl : Int64} (H : ai_g ρ w iv_0 [] [] w) (h : tpR w) : ∃ r wx wm, Go [] 39 mt_3 (ex_ent mt_3 [.ref 0, .long vl]) w (some (.int r), wx) ∧ Go [] 39 mt_4 (ex_ent mt_4 [.ref 59, .long vl]) wx (some (.int r), wm) ∧ tpR wm := by
  have W := H.2.2.2
  obtain ⟨fs0, h0, G0⟩ := fp_o (U := iv_0.2.2.2) (p := 0) (c := 7) W rfl
  obtain ⟨fs9, h15, G15⟩ := fp_o (U := iv_0.2.2.2) (p := 15) (c := 5) W rfl
  obtain ⟨fs5, h59, G59⟩ := fp_o (U := iv_0.2.2.2) (p := 59) (c := 8) W rfl
  obtain ⟨r, wx, wm, g1, g2, g3⟩ := fe_both (X := []) (d := 38) (vl := vl) h0 (gR G0 (k := 0) rfl) (fun fs e => by cases (show some (Sum.inr (Sum.inr (5, fs))) = some (.inr (.inr (5, fs9))) from e.symm.trans h15); exact gR G15 (k := 0) rfl) (fun fs e => by cases (show some (Sum.inr (Sum.inr (8, fs))) = some (.inr (.inr (8, fs5))) from e.symm.trans h59); exact gR G59 (k := 14) rfl) h
  exact ⟨r, wx, wm, g1, g2.up, g3⟩
theorem en_st0 {x : Int32} (H : ai_g ρ w iv_0 [] [] w) (h : tpR w) : ∃ r wx wm, Go [] 39 mt_5 (ex_ent mt_5 [.ref 0, .int x]) w (some (.int r), wx) ∧ Go [] 39 mt_6 (ex_ent mt_6 [.ref 59, .int x]) wx (some (.int r), wm) ∧ tpR wm := by
  obtain ⟨fs0, h0, G0⟩ := fp_o (U := iv_0.2.2.2) (p := 0) (c := 7) H.2.2.2 rfl
  exact en_both h0 (gR G0 (k := 0) rfl) h
theorem tx_st0 (H : ai_g ρ w iv_0 [] [] w) (h : tpR w) : ∃ r wx wm, Go [] 39 mt_7 (ex_ent mt_7 [.ref 0]) w (some (.int r), wx) ∧ Go [] 39 mt_8 (ex_ent mt_8 [.ref 59]) wx (some (.int r), wm) ∧ tpR wm := by
  obtain ⟨n, B, T, fs, fs5, a1, a2, a3, a4, a5, a6, a7, a8, a9, a10⟩ := h
  have W := H.2.2.2
  obtain ⟨fsA, hA_, GA⟩ := fp_o (U := iv_0.2.2.2) (p := 0) (c := 7) W rfl
  obtain ⟨fsB, hB, GB⟩ := fp_o (U := iv_0.2.2.2) (p := 15) (c := 5) W rfl
  obtain ⟨fsD, hD, GD⟩ := fp_o (U := iv_0.2.2.2) (p := 8) (c := 6) W rfl
  obtain ⟨fsM, hM, GM⟩ := fp_o (U := iv_0.2.2.2) (p := 59) (c := 8) W rfl
  obtain rfl : fsB = fs := by
    cases (show some (Sum.inr (Sum.inr (5, fsB))) = some (.inr (.inr (5, fs))) from hB.symm.trans a1)
    rfl
  obtain rfl : fsM = fs5 := by
    cases (show some (Sum.inr (Sum.inr (8, fsM))) = some (.inr (.inr (8, fs5))) from hM.symm.trans a4)
    rfl
  obtain ⟨z11, e11, -⟩ := gI GA (k := 11) rfl
  obtain ⟨z12, e12, -⟩ := gI GA (k := 12) rfl
  obtain ⟨b2, eb2, -⟩ := gI GB (k := 2) rfl
  obtain ⟨b3, eb3, -⟩ := gI GB (k := 3) rfl
  obtain ⟨b5, eb5, -⟩ := gI GB (k := 5) rfl
  obtain ⟨b6, eb6, -⟩ := gI GB (k := 6) rfl
  obtain ⟨b7, eb7, -⟩ := gI GB (k := 7) rfl
  obtain ⟨b8, eb8, -⟩ := gI GB (k := 8) rfl
  obtain ⟨b9, eb9, -⟩ := gI GB (k := 9) rfl
  obtain ⟨vv, eb4, -⟩ := fp_f GB (k := 4) rfl
  obtain ⟨d6, ed6, -⟩ := gI GD (k := 6) rfl
  obtain ⟨d7, ed7, -⟩ := gI GD (k := 7) rfl
  obtain ⟨d8, ed8, -⟩ := gI GD (k := 8) rfl
  obtain ⟨d9, ed9, -⟩ := gI GD (k := 9) rfl
  obtain ⟨d10, ed10, -⟩ := gI GD (k := 10) rfl
  obtain ⟨d11, ed11, -⟩ := gI GD (k := 11) rfl
  obtain ⟨d12, ed12, -⟩ := gI GD (k := 12) rfl
  obtain ⟨d13, ed13, -⟩ := gI GD (k := 13) rfl
  obtain ⟨m2, em2, -⟩ := gI GM (k := 2) rfl
  obtain ⟨m3, em3, -⟩ := gI GM (k := 3) rfl
  obtain ⟨m6, em6, -⟩ := gI GM (k := 6) rfl
  obtain ⟨m8, em8, -⟩ := gI GM (k := 8) rfl
  obtain ⟨m9, em9, -⟩ := gI GM (k := 9) rfl
  obtain ⟨m11, em11, -⟩ := gI GM (k := 11) rfl
  obtain ⟨m12, em12, -⟩ := gI GM (k := 12) rfl
  obtain ⟨m13, em13, -⟩ := gI GM (k := 13) rfl
  obtain ⟨m16, em16, -⟩ := gI GM (k := 16) rfl
  obtain ⟨m17, em17, -⟩ := gI GM (k := 17) rfl
  obtain ⟨m18, em18, -⟩ := gI GM (k := 18) rfl
  obtain ⟨m19, em19, -⟩ := gI GM (k := 19) rfl
  obtain ⟨m20, em20, -⟩ := gI GM (k := 20) rfl
  obtain ⟨m21, em21, -⟩ := gI GM (k := 21) rfl
  obtain ⟨m23, em23, -⟩ := gI GM (k := 23) rfl
  obtain ⟨m26, em26, -⟩ := gI GM (k := 26) rfl
  obtain ⟨m33, em33, -⟩ := gI GM (k := 33) rfl
  obtain ⟨l9, g9, n9⟩ := gA (U := iv_0.2.2.2) (p := 9) (m := 4) (ty := .int) W rfl rfl
  obtain ⟨l10, g10, n10⟩ := gA (U := iv_0.2.2.2) (p := 10) (m := 17) (ty := .int) W rfl rfl
  obtain ⟨l11, g11, n11⟩ := gA (U := iv_0.2.2.2) (p := 11) (m := 60) (ty := .int) W rfl rfl
  obtain ⟨l12, g12, n12⟩ := gA (U := iv_0.2.2.2) (p := 12) (m := 5) (ty := .int) W rfl rfl
  obtain ⟨l13, g13, n13⟩ := gA (U := iv_0.2.2.2) (p := 13) (m := 4) (ty := .int) W rfl rfl
  obtain ⟨l14, g14, n14⟩ := gA (U := iv_0.2.2.2) (p := 14) (m := 4) (ty := .int) W rfl rfl
  obtain ⟨l34, g34, n34⟩ := gA (U := iv_0.2.2.2) (p := 34) (m := 2) (ty := .boolean) W rfl rfl
  obtain ⟨l60, g60, n60⟩ := gA (U := iv_0.2.2.2) (p := 60) (m := 288) (ty := .int) W rfl rfl
  obtain ⟨l61, g61, n61⟩ := gA (U := iv_0.2.2.2) (p := 61) (m := 2) (ty := .boolean) W rfl rfl
  obtain ⟨l62, g62, n62⟩ := gA (U := iv_0.2.2.2) (p := 62) (m := 4) (ty := .int) W rfl rfl
  obtain ⟨l64, g64, n64⟩ := gA (U := iv_0.2.2.2) (p := 64) (m := 96) (ty := .int) W rfl rfl
  obtain ⟨l65, g65, n65⟩ := gA (U := iv_0.2.2.2) (p := 65) (m := 4) (ty := .int) W rfl rfl
  have hput : ex_put fsB 4 (.ref 8) = tr 8 (nI n) b2 b3 b5 b6 b7 b8 b9 := ex_ext (m := 10) (by rw [ex_put_eq, List.length_set]; exact gL GB rfl) rfl (fun i hi => match i, hi with
    | 0, _ => vg_at_o rfl (gR GB (k := 0) rfl)
    | 1, _ => vg_at_o rfl a2
    | 2, _ => vg_at_o rfl eb2
    | 3, _ => vg_at_o rfl eb3
    | 4, _ => vg_at_put eb4
    | 5, _ => vg_at_o rfl eb5
    | 6, _ => vg_at_o rfl eb6
    | 7, _ => vg_at_o rfl eb7
    | 8, _ => vg_at_o rfl eb8
    | 9, _ => vg_at_o rfl eb9)
  have hD2 : fsD = td 8 d6 d7 d8 d9 d10 d11 d12 d13 := ex_ext (m := 14) (gL GD rfl) rfl (fun i hi => match i, hi with
    | 0, _ => gR GD (k := 0) rfl
    | 1, _ => gR GD (k := 1) rfl
    | 2, _ => gR GD (k := 2) rfl
    | 3, _ => gR GD (k := 3) rfl
    | 4, _ => gR GD (k := 4) rfl
    | 5, _ => gR GD (k := 5) rfl
    | 6, _ => ed6
    | 7, _ => ed7
    | 8, _ => ed8
    | 9, _ => ed9
    | 10, _ => ed10
    | 11, _ => ed11
    | 12, _ => ed12
    | 13, _ => ed13)
  have hM2 : fsM = nm (up (up (up (fun _ => 0) 0 m23) 1 m26) 2 m33) m2 m3 m6 m8 m9 m11 m12 m13 (nI n) m16 m17 m18 m19 m20 m21 := ex_ext (m := 34) (gL GM rfl) rfl (fun i hi => match i, hi with
    | 0, _ => gR GM (k := 0) rfl
    | 1, _ => gR GM (k := 1) rfl
    | 2, _ => em2
    | 3, _ => em3
    | 4, _ => gR GM (k := 4) rfl
    | 5, _ => gR GM (k := 5) rfl
    | 6, _ => em6
    | 7, _ => gR GM (k := 7) rfl
    | 8, _ => em8
    | 9, _ => em9
    | 10, _ => gR GM (k := 10) rfl
    | 11, _ => em11
    | 12, _ => em12
    | 13, _ => em13
    | 14, _ => gR GM (k := 14) rfl
    | 15, _ => a5
    | 16, _ => em16
    | 17, _ => em17
    | 18, _ => em18
    | 19, _ => em19
    | 20, _ => em20
    | 21, _ => em21
    | 22, _ => gR GM (k := 22) rfl
    | 23, _ => em23
    | 24, _ => gR GM (k := 24) rfl
    | 25, _ => gR GM (k := 25) rfl
    | 26, _ => em26
    | 27, _ => gR GM (k := 27) rfl
    | 28, _ => gR GM (k := 28) rfl
    | 29, _ => gR GM (k := 29) rfl
    | 30, _ => gR GM (k := 30) rfl
    | 31, _ => gR GM (k := 31) rfl
    | 32, _ => gR GM (k := 32) rfl
    | 33, _ => em33
    | k + 34, hk => absurd hk (by omega))
  have hA : cA w 8 B (up (up (up (up (up (up (up (up (fun _ => 0) 0 d6) 1 d7) 2 d8) 3 d9) 4 d10) 5 d11) 6 d12) 7 d13) (up (up (up (up (up (up (fun _ => []) 0 l9) 1 l10) 2 l11) 3 l12) 4 l13) 5 l14) := ⟨a3, by subst hD2; exact hD, fun k hk => match k, hk with
    | 0, _ => g9
    | 1, _ => g10
    | 2, _ => g11
    | 3, _ => g12
    | 4, _ => g13
    | 5, _ => g14⟩
  have hA0 := hA_
  have hcB : cB (fun i => (T.getD i 0).toInt.toNat) n B := ⟨a8, a7, fun i hi => by
    obtain ⟨q1, q2, q3⟩ := a10 i hi
    show ((T.getD i 0).toInt.toNat < 128 ∧ (B.getD i 0).toInt = ((T.getD i 0).toInt.toNat : Int)) ∨ (128 ≤ (T.getD i 0).toInt.toNat ∧ (B.getD i 0).toInt = ((T.getD i 0).toInt.toNat : Int) - 256 ∧ (T.getD i 0).toInt.toNat < 256)
    rcases q3 with ⟨q3, q4⟩ | ⟨q3, q4⟩
    · exact Or.inl ⟨by omega, by rw [q4]; omega⟩
    · exact Or.inr ⟨by omega, by rw [q4]; omega, by omega⟩⟩
  have hrB : rB (fun i => (T.getD i 0).toInt.toNat) n T := ⟨a9, a7, fun i hi => by
    obtain ⟨q1, q2, q3⟩ := a10 i hi
    exact ⟨by show (T.getD i 0).toInt.toNat < 256; omega, tI_nI (by show _ = (((T.getD i 0).toInt.toNat : Nat) : Int); omega) (by show (T.getD i 0).toInt.toNat < 2 ^ 31; omega)⟩⟩
  have h59 : ex_at w 59 = some (rC (up (up (up (fun _ => 0) 0 m23) 1 m26) 2 m33) m2 m3 m6 m8 m9 m11 m12 m13 (nI n) m16 m17 m18 m19 m20 m21) := by rw [a4, hM2]
  obtain ⟨r, wx, wm, q1, q2, ⟨gs, q3, q4⟩, ⟨gs5, q5, q6⟩, q7, q8⟩ := tx_both (X := []) (d := 31) (by decide) (by decide) hcB hrB hA0 (gR GA (k := 0) rfl) (gR GA (k := 6) rfl) (gR GA (k := 9) rfl) (gR GA (k := 10) rfl) e11 e12 a1 eb4 hput hA n9 n10 ⟨n11, n12, n13, n14⟩ g34 n34 h59 ⟨a6, g64, g65⟩ n64 n65 g60 n60 g61 n61 g62 n62
  exact ⟨r, wx, wm, q1, q2.up, 0, B, T, gs, gs5, q3, q4, q7.trans a3, q5, q6, q8.trans a6, by omega, a8, a9, fun i hi => by omega⟩
theorem fe_st1 {vl : Int64} (H : ai_g ρ w iv_1 [] [] w) (h : tpR w) : ∃ r wx wm, Go [] 39 mt_3 (ex_ent mt_3 [.ref 0, .long vl]) w (some (.int r), wx) ∧ Go [] 39 mt_4 (ex_ent mt_4 [.ref 59, .long vl]) wx (some (.int r), wm) ∧ tpR wm := by
  have W := H.2.2.2
  obtain ⟨fs0, h0, G0⟩ := fp_o (U := iv_1.2.2.2) (p := 0) (c := 7) W rfl
  obtain ⟨fs9, h15, G15⟩ := fp_o (U := iv_1.2.2.2) (p := 15) (c := 5) W rfl
  obtain ⟨fs5, h59, G59⟩ := fp_o (U := iv_1.2.2.2) (p := 59) (c := 8) W rfl
  obtain ⟨r, wx, wm, g1, g2, g3⟩ := fe_both (X := []) (d := 38) (vl := vl) h0 (gR G0 (k := 0) rfl) (fun fs e => by cases (show some (Sum.inr (Sum.inr (5, fs))) = some (.inr (.inr (5, fs9))) from e.symm.trans h15); exact gR G15 (k := 0) rfl) (fun fs e => by cases (show some (Sum.inr (Sum.inr (8, fs))) = some (.inr (.inr (8, fs5))) from e.symm.trans h59); exact gR G59 (k := 14) rfl) h
  exact ⟨r, wx, wm, g1, g2.up, g3⟩
theorem en_st1 {x : Int32} (H : ai_g ρ w iv_1 [] [] w) (h : tpR w) : ∃ r wx wm, Go [] 39 mt_5 (ex_ent mt_5 [.ref 0, .int x]) w (some (.int r), wx) ∧ Go [] 39 mt_6 (ex_ent mt_6 [.ref 59, .int x]) wx (some (.int r), wm) ∧ tpR wm := by
  obtain ⟨fs0, h0, G0⟩ := fp_o (U := iv_1.2.2.2) (p := 0) (c := 7) H.2.2.2 rfl
  exact en_both h0 (gR G0 (k := 0) rfl) h
theorem tx_st1 (H : ai_g ρ w iv_1 [] [] w) (h : tpR w) : ∃ r wx wm, Go [] 39 mt_7 (ex_ent mt_7 [.ref 0]) w (some (.int r), wx) ∧ Go [] 39 mt_8 (ex_ent mt_8 [.ref 59]) wx (some (.int r), wm) ∧ tpR wm := by
  obtain ⟨n, B, T, fs, fs5, a1, a2, a3, a4, a5, a6, a7, a8, a9, a10⟩ := h
  have W := H.2.2.2
  obtain ⟨fsA, hA_, GA⟩ := fp_o (U := iv_1.2.2.2) (p := 0) (c := 7) W rfl
  obtain ⟨fsB, hB, GB⟩ := fp_o (U := iv_1.2.2.2) (p := 15) (c := 5) W rfl
  obtain ⟨fsD, hD, GD⟩ := fp_o (U := iv_1.2.2.2) (p := 1) (c := 6) W rfl
  obtain ⟨fsM, hM, GM⟩ := fp_o (U := iv_1.2.2.2) (p := 59) (c := 8) W rfl
  obtain rfl : fsB = fs := by
    cases (show some (Sum.inr (Sum.inr (5, fsB))) = some (.inr (.inr (5, fs))) from hB.symm.trans a1)
    rfl
  obtain rfl : fsM = fs5 := by
    cases (show some (Sum.inr (Sum.inr (8, fsM))) = some (.inr (.inr (8, fs5))) from hM.symm.trans a4)
    rfl
  obtain ⟨z11, e11, -⟩ := gI GA (k := 11) rfl
  obtain ⟨z12, e12, -⟩ := gI GA (k := 12) rfl
  obtain ⟨b2, eb2, -⟩ := gI GB (k := 2) rfl
  obtain ⟨b3, eb3, -⟩ := gI GB (k := 3) rfl
  obtain ⟨b5, eb5, -⟩ := gI GB (k := 5) rfl
  obtain ⟨b6, eb6, -⟩ := gI GB (k := 6) rfl
  obtain ⟨b7, eb7, -⟩ := gI GB (k := 7) rfl
  obtain ⟨b8, eb8, -⟩ := gI GB (k := 8) rfl
  obtain ⟨b9, eb9, -⟩ := gI GB (k := 9) rfl
  obtain ⟨vv, eb4, -⟩ := fp_f GB (k := 4) rfl
  obtain ⟨d6, ed6, -⟩ := gI GD (k := 6) rfl
  obtain ⟨d7, ed7, -⟩ := gI GD (k := 7) rfl
  obtain ⟨d8, ed8, -⟩ := gI GD (k := 8) rfl
  obtain ⟨d9, ed9, -⟩ := gI GD (k := 9) rfl
  obtain ⟨d10, ed10, -⟩ := gI GD (k := 10) rfl
  obtain ⟨d11, ed11, -⟩ := gI GD (k := 11) rfl
  obtain ⟨d12, ed12, -⟩ := gI GD (k := 12) rfl
  obtain ⟨d13, ed13, -⟩ := gI GD (k := 13) rfl
  obtain ⟨m2, em2, -⟩ := gI GM (k := 2) rfl
  obtain ⟨m3, em3, -⟩ := gI GM (k := 3) rfl
  obtain ⟨m6, em6, -⟩ := gI GM (k := 6) rfl
  obtain ⟨m8, em8, -⟩ := gI GM (k := 8) rfl
  obtain ⟨m9, em9, -⟩ := gI GM (k := 9) rfl
  obtain ⟨m11, em11, -⟩ := gI GM (k := 11) rfl
  obtain ⟨m12, em12, -⟩ := gI GM (k := 12) rfl
  obtain ⟨m13, em13, -⟩ := gI GM (k := 13) rfl
  obtain ⟨m16, em16, -⟩ := gI GM (k := 16) rfl
  obtain ⟨m17, em17, -⟩ := gI GM (k := 17) rfl
  obtain ⟨m18, em18, -⟩ := gI GM (k := 18) rfl
  obtain ⟨m19, em19, -⟩ := gI GM (k := 19) rfl
  obtain ⟨m20, em20, -⟩ := gI GM (k := 20) rfl
  obtain ⟨m21, em21, -⟩ := gI GM (k := 21) rfl
  obtain ⟨m23, em23, -⟩ := gI GM (k := 23) rfl
  obtain ⟨m26, em26, -⟩ := gI GM (k := 26) rfl
  obtain ⟨m33, em33, -⟩ := gI GM (k := 33) rfl
  obtain ⟨l2, g2, n2⟩ := gA (U := iv_1.2.2.2) (p := 2) (m := 4) (ty := .int) W rfl rfl
  obtain ⟨l3, g3, n3⟩ := gA (U := iv_1.2.2.2) (p := 3) (m := 17) (ty := .int) W rfl rfl
  obtain ⟨l4, g4, n4⟩ := gA (U := iv_1.2.2.2) (p := 4) (m := 60) (ty := .int) W rfl rfl
  obtain ⟨l5, g5, n5⟩ := gA (U := iv_1.2.2.2) (p := 5) (m := 5) (ty := .int) W rfl rfl
  obtain ⟨l6, g6, n6⟩ := gA (U := iv_1.2.2.2) (p := 6) (m := 4) (ty := .int) W rfl rfl
  obtain ⟨l7, g7, n7⟩ := gA (U := iv_1.2.2.2) (p := 7) (m := 4) (ty := .int) W rfl rfl
  obtain ⟨l34, g34, n34⟩ := gA (U := iv_1.2.2.2) (p := 34) (m := 2) (ty := .boolean) W rfl rfl
  obtain ⟨l60, g60, n60⟩ := gA (U := iv_1.2.2.2) (p := 60) (m := 288) (ty := .int) W rfl rfl
  obtain ⟨l61, g61, n61⟩ := gA (U := iv_1.2.2.2) (p := 61) (m := 2) (ty := .boolean) W rfl rfl
  obtain ⟨l62, g62, n62⟩ := gA (U := iv_1.2.2.2) (p := 62) (m := 4) (ty := .int) W rfl rfl
  obtain ⟨l64, g64, n64⟩ := gA (U := iv_1.2.2.2) (p := 64) (m := 96) (ty := .int) W rfl rfl
  obtain ⟨l65, g65, n65⟩ := gA (U := iv_1.2.2.2) (p := 65) (m := 4) (ty := .int) W rfl rfl
  have hput : ex_put fsB 4 (.ref 1) = tr 1 (nI n) b2 b3 b5 b6 b7 b8 b9 := ex_ext (m := 10) (by rw [ex_put_eq, List.length_set]; exact gL GB rfl) rfl (fun i hi => match i, hi with
    | 0, _ => vg_at_o rfl (gR GB (k := 0) rfl)
    | 1, _ => vg_at_o rfl a2
    | 2, _ => vg_at_o rfl eb2
    | 3, _ => vg_at_o rfl eb3
    | 4, _ => vg_at_put eb4
    | 5, _ => vg_at_o rfl eb5
    | 6, _ => vg_at_o rfl eb6
    | 7, _ => vg_at_o rfl eb7
    | 8, _ => vg_at_o rfl eb8
    | 9, _ => vg_at_o rfl eb9)
  have hD2 : fsD = td 1 d6 d7 d8 d9 d10 d11 d12 d13 := ex_ext (m := 14) (gL GD rfl) rfl (fun i hi => match i, hi with
    | 0, _ => gR GD (k := 0) rfl
    | 1, _ => gR GD (k := 1) rfl
    | 2, _ => gR GD (k := 2) rfl
    | 3, _ => gR GD (k := 3) rfl
    | 4, _ => gR GD (k := 4) rfl
    | 5, _ => gR GD (k := 5) rfl
    | 6, _ => ed6
    | 7, _ => ed7
    | 8, _ => ed8
    | 9, _ => ed9
    | 10, _ => ed10
    | 11, _ => ed11
    | 12, _ => ed12
    | 13, _ => ed13)
  have hM2 : fsM = nm (up (up (up (fun _ => 0) 0 m23) 1 m26) 2 m33) m2 m3 m6 m8 m9 m11 m12 m13 (nI n) m16 m17 m18 m19 m20 m21 := ex_ext (m := 34) (gL GM rfl) rfl (fun i hi => match i, hi with
    | 0, _ => gR GM (k := 0) rfl
    | 1, _ => gR GM (k := 1) rfl
    | 2, _ => em2
    | 3, _ => em3
    | 4, _ => gR GM (k := 4) rfl
    | 5, _ => gR GM (k := 5) rfl
    | 6, _ => em6
    | 7, _ => gR GM (k := 7) rfl
    | 8, _ => em8
    | 9, _ => em9
    | 10, _ => gR GM (k := 10) rfl
    | 11, _ => em11
    | 12, _ => em12
    | 13, _ => em13
    | 14, _ => gR GM (k := 14) rfl
    | 15, _ => a5
    | 16, _ => em16
    | 17, _ => em17
    | 18, _ => em18
    | 19, _ => em19
    | 20, _ => em20
    | 21, _ => em21
    | 22, _ => gR GM (k := 22) rfl
    | 23, _ => em23
    | 24, _ => gR GM (k := 24) rfl
    | 25, _ => gR GM (k := 25) rfl
    | 26, _ => em26
    | 27, _ => gR GM (k := 27) rfl
    | 28, _ => gR GM (k := 28) rfl
    | 29, _ => gR GM (k := 29) rfl
    | 30, _ => gR GM (k := 30) rfl
    | 31, _ => gR GM (k := 31) rfl
    | 32, _ => gR GM (k := 32) rfl
    | 33, _ => em33
    | k + 34, hk => absurd hk (by omega))
  have hA : cA w 1 B (up (up (up (up (up (up (up (up (fun _ => 0) 0 d6) 1 d7) 2 d8) 3 d9) 4 d10) 5 d11) 6 d12) 7 d13) (up (up (up (up (up (up (fun _ => []) 0 l2) 1 l3) 2 l4) 3 l5) 4 l6) 5 l7) := ⟨a3, by subst hD2; exact hD, fun k hk => match k, hk with
    | 0, _ => g2
    | 1, _ => g3
    | 2, _ => g4
    | 3, _ => g5
    | 4, _ => g6
    | 5, _ => g7⟩
  have hA0 := hA_
  have hcB : cB (fun i => (T.getD i 0).toInt.toNat) n B := ⟨a8, a7, fun i hi => by
    obtain ⟨q1, q2, q3⟩ := a10 i hi
    show ((T.getD i 0).toInt.toNat < 128 ∧ (B.getD i 0).toInt = ((T.getD i 0).toInt.toNat : Int)) ∨ (128 ≤ (T.getD i 0).toInt.toNat ∧ (B.getD i 0).toInt = ((T.getD i 0).toInt.toNat : Int) - 256 ∧ (T.getD i 0).toInt.toNat < 256)
    rcases q3 with ⟨q3, q4⟩ | ⟨q3, q4⟩
    · exact Or.inl ⟨by omega, by rw [q4]; omega⟩
    · exact Or.inr ⟨by omega, by rw [q4]; omega, by omega⟩⟩
  have hrB : rB (fun i => (T.getD i 0).toInt.toNat) n T := ⟨a9, a7, fun i hi => by
    obtain ⟨q1, q2, q3⟩ := a10 i hi
    exact ⟨by show (T.getD i 0).toInt.toNat < 256; omega, tI_nI (by show _ = (((T.getD i 0).toInt.toNat : Nat) : Int); omega) (by show (T.getD i 0).toInt.toNat < 2 ^ 31; omega)⟩⟩
  have h59 : ex_at w 59 = some (rC (up (up (up (fun _ => 0) 0 m23) 1 m26) 2 m33) m2 m3 m6 m8 m9 m11 m12 m13 (nI n) m16 m17 m18 m19 m20 m21) := by rw [a4, hM2]
  obtain ⟨r, wx, wm, q1, q2, ⟨gs, q3, q4⟩, ⟨gs5, q5, q6⟩, q7, q8⟩ := tx_both (X := []) (d := 31) (by decide) (by decide) hcB hrB hA0 (gR GA (k := 0) rfl) (gR GA (k := 6) rfl) (gR GA (k := 9) rfl) (gR GA (k := 10) rfl) e11 e12 a1 eb4 hput hA n2 n3 ⟨n4, n5, n6, n7⟩ g34 n34 h59 ⟨a6, g64, g65⟩ n64 n65 g60 n60 g61 n61 g62 n62
  exact ⟨r, wx, wm, q1, q2.up, 0, B, T, gs, gs5, q3, q4, q7.trans a3, q5, q6, q8.trans a6, by omega, a8, a9, fun i hi => by omega⟩
end TV
