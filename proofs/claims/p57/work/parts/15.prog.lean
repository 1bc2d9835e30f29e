/-! The program of the small machine: printed by a program of mine out of the decode rows and the tables (wip/whole/gen). An instruction: what it is, where it stands in bytes; its group and what it needs; which locals live ahead of it. -/
-- 0: yX0_init
set_option maxRecDepth 100000 in
noncomputable def zcd_0 : List (List zOp) := [[(((.aload_n 0), 0), ([0], [])),
  (((.invokespecial 3), 1), ([8, 0], [])),
  (((.aload_n 0), 4), ([0], [])),
  (((.iconst 3), 5), ([0], [])),
  (((.newarray .int), 6), ([7, 21], [])),
  (((.putfield 9), 8), ([5, 0, 11, 3], [])),
  (((.aload_n 0), 11), ([0], [])),
  (((.iload_n 1), 12), ([0], [])),
  (((.putfield 15), 13), ([5, 0, 0, 0], [])),
  (((.aload_n 0), 16), ([0], [])),
  (((.iload_n 2), 17), ([0], [])),
  (((.putfield 19), 18), ([5, 0, 1, 0], [])),
  (((.aload_n 0), 21), ([0], [])),
  (((.iload_n 3), 22), ([0], [])),
  (((.putfield 22), 23), ([5, 0, 2, 0], [])),
  (((.return_), 26), ([10], []))]]
-- 1: yX0_clashWith
set_option maxRecDepth 100000 in
noncomputable def zcd_1 : List (List zOp) := [[(((.aload_n 0), 0), ([0], [])),
  (((.getfield 19), 1), ([5, 0, 1, 0], [])),
  (((.aload_n 1), 4), ([0], [])),
  (((.getfield 19), 5), ([5, 0, 1, 0], [])),
  (((.if_icmp .ne 39), 8), ([3, 27], [])),
  (((.aload_n 0), 11), ([0], [])),
  (((.getfield 25), 12), ([5, 0, 6, 0], [])),
  (((.iconst 1), 15), ([0], [])),
  (((.aload_n 1), 16), ([0], [])),
  (((.getfield 28), 17), ([5, 0, 7, 0], [])),
  (((.ishl), 20), ([1], [])),
  (((.iand), 21), ([1], [])),
  (((.ifCond .ne 5), 22), ([3, 15], [])),
  (((.iconst 1), 25), ([0], [])),
  (((.ireturn), 26), ([10], [])),
  (((.aload_n 1), 27), ([0], [true, true]))], [(((.getfield 25), 28), ([5, 0, 6, 0], [])),
  (((.iconst 1), 31), ([0], [])),
  (((.aload_n 0), 32), ([0], [])),
  (((.getfield 28), 33), ([5, 0, 7, 0], [])),
  (((.ishl), 36), ([1], [])),
  (((.iand), 37), ([1], [])),
  (((.ifCond .ne 7), 38), ([3, 25], [])),
  (((.iconst 2), 41), ([0], [])),
  (((.goto 4), 42), ([3, 26], [])),
  (((.iconst 0), 45), ([0], [false, false])),
  (((.ireturn), 46), ([10], [false, false])),
  (((.aload_n 0), 47), ([0], [true, true])),
  (((.getfield 31), 48), ([5, 0, 5, 0], [])),
  (((.aload_n 1), 51), ([0], [])),
  (((.getfield 19), 52), ([5, 0, 1, 0], [])),
  (((.if_icmp .ne 19), 55), ([3, 42], []))], [(((.aload_n 0), 58), ([0], [])),
  (((.getfield 34), 59), ([5, 0, 4, 0], [])),
  (((.aload_n 1), 62), ([0], [])),
  (((.getfield 37), 63), ([5, 0, 3, 0], [])),
  (((.iconst (-1)), 66), ([0], [])),
  (((.ixor), 67), ([1], [])),
  (((.iand), 68), ([1], [])),
  (((.ifCond .eq 5), 69), ([3, 42], [])),
  (((.iconst 3), 72), ([0], [])),
  (((.ireturn), 73), ([10], [])),
  (((.aload_n 1), 74), ([0], [true, true])),
  (((.getfield 31), 75), ([5, 0, 5, 0], [])),
  (((.aload_n 0), 78), ([0], [])),
  (((.getfield 19), 79), ([5, 0, 1, 0], [])),
  (((.if_icmp .ne 21), 82), ([3, 57], [])),
  (((.aload_n 1), 85), ([0], []))], [(((.getfield 34), 86), ([5, 0, 4, 0], [])),
  (((.aload_n 0), 89), ([0], [])),
  (((.getfield 37), 90), ([5, 0, 3, 0], [])),
  (((.iconst (-1)), 93), ([0], [])),
  (((.ixor), 94), ([1], [])),
  (((.iand), 95), ([1], [])),
  (((.ifCond .eq 7), 96), ([3, 57], [])),
  (((.iconst 4), 99), ([0], [])),
  (((.goto 4), 100), ([3, 58], [])),
  (((.iconst 0), 103), ([0], [false, false])),
  (((.ireturn), 104), ([10], [false, false]))]]
-- 2: yL_law
set_option maxRecDepth 100000 in
noncomputable def zcd_2 : List (List zOp) := []
-- 3: yL_law
set_option maxRecDepth 100000 in
noncomputable def zcd_3 : List (List zOp) := []
-- 4: yX2_init
set_option maxRecDepth 100000 in
noncomputable def zcd_4 : List (List zOp) := [[(((.aload_n 0), 0), ([0], [])),
  (((.invokespecial 3), 1), ([8, 0], [])),
  (((.aload_n 0), 4), ([0], [])),
  (((.new 9), 5), ([7, 20], [])),
  (((.dup), 8), ([0], [])),
  (((.invokespecial 11), 9), ([8, 1], [])),
  (((.putfield 12), 12), ([5, 2, 0, 3], [])),
  (((.aload_n 0), 15), ([0], [])),
  (((.iconst (-1)), 16), ([0], [])),
  (((.putfield 18), 17), ([5, 2, 2, 0], [])),
  (((.return_), 20), ([10], []))]]
-- 5: yL_law
set_option maxRecDepth 100000 in
noncomputable def zcd_5 : List (List zOp) := []
-- 6: yX3_holdsFor
set_option maxRecDepth 100000 in
noncomputable def zcd_6 : List (List zOp) := [[(((.aload_n 0), 0), ([0], [])),
  (((.getfield 19), 1), ([12], [])),
  (((.iconst 3), 4), ([0], [])),
  (((.if_icmp .ne 5), 5), ([3, 6], [])),
  (((.iconst 1), 8), ([0], [])),
  (((.ireturn), 9), ([10], [])),
  (((.aload_n 1), 10), ([0], [true, true])),
  (((.getfield 22), 11), ([5, 0, 8, 1], [])),
  (((.ifCond .ne 22), 14), ([3, 18], [])),
  (((.aload_n 0), 17), ([0], [])),
  (((.getfield 19), 18), ([12], [])),
  (((.iconst 2), 21), ([0], [])),
  (((.if_icmp .eq 10), 22), ([3, 16], [])),
  (((.aload_n 1), 25), ([0], [])),
  (((.getfield 28), 26), ([5, 0, 9, 1], [])),
  (((.ifCond .eq 7), 29), ([3, 18], []))], [(((.iconst 1), 32), ([0], [false, false])),
  (((.goto 4), 33), ([3, 19], [])),
  (((.iconst 0), 36), ([0], [false, false])),
  (((.ireturn), 37), ([10], [false, false]))]]
-- 7: yX4_init
set_option maxRecDepth 100000 in
noncomputable def zcd_7 : List (List zOp) := [[(((.aload_n 0), 0), ([0], [])),
  (((.invokespecial 3), 1), ([8, 0], [])),
  (((.aload_n 0), 4), ([0], [])),
  (((.bipush 10), 5), ([0], [])),
  (((.newarray .int), 7), ([7, 22], [])),
  (((.putfield 9), 9), ([5, 4, 0, 3], [])),
  (((.aload_n 0), 12), ([0], [])),
  (((.bipush 10), 13), ([0], [])),
  (((.newarray .int), 15), ([7, 23], [])),
  (((.putfield 15), 17), ([5, 4, 1, 3], [])),
  (((.aload_n 0), 20), ([0], [])),
  (((.bipush 10), 21), ([0], [])),
  (((.newarray .int), 23), ([7, 24], [])),
  (((.putfield 18), 25), ([5, 4, 2, 3], [])),
  (((.return_), 28), ([10], []))]]
-- 8: yX4_append
set_option maxRecDepth 100000 in
noncomputable def zcd_8 : List (List zOp) := [[(((.aload_n 0), 0), ([0], [])),
  (((.getfield 9), 1), ([5, 4, 0, 3], [])),
  (((.aload_n 0), 4), ([0], [])),
  (((.getfield 21), 5), ([5, 4, 3, 0], [])),
  (((.iload_n 1), 8), ([0], [])),
  (((.iastore), 9), ([6], [])),
  (((.aload_n 0), 10), ([0], [])),
  (((.getfield 15), 11), ([5, 4, 1, 3], [])),
  (((.aload_n 0), 14), ([0], [])),
  (((.getfield 21), 15), ([5, 4, 3, 0], [])),
  (((.iload_n 2), 18), ([0], [])),
  (((.iastore), 19), ([6], [])),
  (((.aload_n 0), 20), ([0], [])),
  (((.getfield 18), 21), ([5, 4, 2, 3], [])),
  (((.aload_n 0), 24), ([0], [])),
  (((.getfield 21), 25), ([5, 4, 3, 0], []))], [(((.iload_n 3), 28), ([0], [])),
  (((.iastore), 29), ([6], [])),
  (((.aload_n 0), 30), ([0], [])),
  (((.dup), 31), ([0], [])),
  (((.getfield 21), 32), ([5, 4, 3, 0], [])),
  (((.iconst 1), 35), ([0], [])),
  (((.iadd), 36), ([1], [])),
  (((.putfield 21), 37), ([5, 4, 3, 0], [])),
  (((.return_), 40), ([10], []))]]
-- 9: yX5_init
set_option maxRecDepth 100000 in
noncomputable def zcd_9 : List (List zOp) := [[(((.aload_n 0), 0), ([0], [])),
  (((.invokespecial 3), 1), ([8, 0], [])),
  (((.aload_n 0), 4), ([0], [])),
  (((.iconst 0), 5), ([0], [])),
  (((.putfield 9), 6), ([5, 5, 2, 0], [])),
  (((.aload_n 0), 9), ([0], [])),
  (((.iconst 3), 10), ([0], [])),
  (((.newarray .boolean), 11), ([7, 25], [])),
  (((.putfield 15), 13), ([5, 5, 9, 3], [])),
  (((.aload_n 0), 16), ([0], [])),
  (((.iconst 3), 17), ([0], [])),
  (((.anewarray 19), 18), ([7, 26], [])),
  (((.putfield 21), 21), ([5, 5, 10, 3], [])),
  (((.aload_n 0), 24), ([0], [])),
  (((.aload_n 1), 25), ([0], [])),
  (((.putfield 25), 26), ([5, 5, 0, 3], []))], [(((.aload_n 0), 29), ([0], [])),
  (((.aload_n 2), 30), ([0], [])),
  (((.putfield 29), 31), ([5, 5, 1, 3], [])),
  (((.aload_n 0), 34), ([0], [])),
  (((.iload_n 3), 35), ([0], [])),
  (((.putfield 33), 36), ([5, 5, 4, 0], [])),
  (((.return_), 39), ([10], []))]]
-- 10: yX5_hasEnded
set_option maxRecDepth 100000 in
noncomputable def zcd_10 : List (List zOp) := [[(((.aload_n 0), 0), ([0], [])),
  (((.getfield 9), 1), ([5, 5, 2, 0], [])),
  (((.ifCond .eq 15), 4), ([3, 9], [])),
  (((.aload_n 0), 7), ([0], [])),
  (((.getfield 9), 8), ([5, 5, 2, 0], [])),
  (((.iconst 1), 11), ([0], [])),
  (((.if_icmp .eq 7), 12), ([3, 9], [])),
  (((.iconst 1), 15), ([0], [])),
  (((.goto 4), 16), ([3, 10], [])),
  (((.iconst 0), 19), ([0], [false])),
  (((.ireturn), 20), ([10], [false]))]]
-- 11: yX5_comeTo
set_option maxRecDepth 100000 in
noncomputable def zcd_11 : List (List zOp) := [[(((.aload_n 0), 0), ([0], [])),
  (((.iload_n 1), 1), ([0], [])),
  (((.putfield 36), 2), ([5, 5, 3, 0], [])),
  (((.aload_n 0), 5), ([0], [])),
  (((.iload_n 2), 6), ([0], [])),
  (((.putfield 33), 7), ([5, 5, 4, 0], [])),
  (((.aload_n 0), 10), ([0], [])),
  (((.iconst 0), 11), ([0], [])),
  (((.putfield 39), 12), ([5, 5, 8, 1], [])),
  (((.return_), 15), ([10], []))]]
-- 12: yX5_kindNow
set_option maxRecDepth 100000 in
noncomputable def zcd_12 : List (List zOp) := [[(((.aload_n 0), 0), ([0], [])),
  (((.getfield 36), 1), ([5, 5, 3, 0], [])),
  (((.aload_n 0), 4), ([0], [])),
  (((.getfield 29), 5), ([5, 5, 1, 3], [])),
  (((.getfield 43), 8), ([5, 4, 3, 0], [])),
  (((.if_icmp .ge 18), 11), ([3, 13], [])),
  (((.aload_n 0), 14), ([0], [])),
  (((.getfield 29), 15), ([5, 5, 1, 3], [])),
  (((.getfield 48), 18), ([5, 4, 0, 3], [])),
  (((.aload_n 0), 21), ([0], [])),
  (((.getfield 36), 22), ([5, 5, 3, 0], [])),
  (((.iaload), 25), ([6], [])),
  (((.goto 4), 26), ([3, 14], [])),
  (((.iconst (-1)), 29), ([0], [false])),
  (((.ireturn), 30), ([10], [false]))]]
-- 13: yX5_ofNow
set_option maxRecDepth 100000 in
noncomputable def zcd_13 : List (List zOp) := [[(((.aload_n 0), 0), ([0], [])),
  (((.getfield 36), 1), ([5, 5, 3, 0], [])),
  (((.aload_n 0), 4), ([0], [])),
  (((.getfield 29), 5), ([5, 5, 1, 3], [])),
  (((.getfield 43), 8), ([5, 4, 3, 0], [])),
  (((.if_icmp .ge 18), 11), ([3, 13], [])),
  (((.aload_n 0), 14), ([0], [])),
  (((.getfield 29), 15), ([5, 5, 1, 3], [])),
  (((.getfield 52), 18), ([5, 4, 1, 3], [])),
  (((.aload_n 0), 21), ([0], [])),
  (((.getfield 36), 22), ([5, 5, 3, 0], [])),
  (((.iaload), 25), ([6], [])),
  (((.goto 4), 26), ([3, 14], [])),
  (((.iconst (-1)), 29), ([0], [false])),
  (((.ireturn), 30), ([10], [false]))]]
-- 14: yX5_shareNow
set_option maxRecDepth 100000 in
noncomputable def zcd_14 : List (List zOp) := [[(((.aload_n 0), 0), ([0], [])),
  (((.invokevirtual 55), 1), ([9, 12, 1, 5, 0], [])),
  (((.ifCond .ne 18), 4), ([3, 10], [])),
  (((.aload_n 0), 7), ([0], [])),
  (((.getfield 29), 8), ([5, 5, 1, 3], [])),
  (((.getfield 59), 11), ([5, 4, 2, 3], [])),
  (((.aload_n 0), 14), ([0], [])),
  (((.getfield 36), 15), ([5, 5, 3, 0], [])),
  (((.iaload), 18), ([6], [])),
  (((.goto 4), 19), ([3, 11], [])),
  (((.iconst 0), 22), ([0], [false])),
  (((.ireturn), 23), ([10], [false]))]]
-- 15: yL_law
set_option maxRecDepth 100000 in
noncomputable def zcd_15 : List (List zOp) := []
-- 16: yL_law
set_option maxRecDepth 100000 in
noncomputable def zcd_16 : List (List zOp) := []
-- 17: yX7_init
set_option maxRecDepth 100000 in
noncomputable def zcd_17 : List (List zOp) := [[(((.aload_n 0), 0), ([0], [])),
  (((.invokespecial 3), 1), ([8, 0], [])),
  (((.aload_n 0), 4), ([0], [])),
  (((.bipush 8), 5), ([0], [])),
  (((.newarray .int), 7), ([7, 30], [])),
  (((.putfield 9), 9), ([5, 7, 0, 3], [])),
  (((.aload_n 0), 12), ([0], [])),
  (((.bipush 17), 13), ([0], [])),
  (((.newarray .int), 15), ([7, 31], [])),
  (((.putfield 15), 17), ([5, 7, 3, 3], [])),
  (((.return_), 20), ([10], []))]]
-- 18: yX7_empty
set_option maxRecDepth 100000 in
noncomputable def zcd_18 : List (List zOp) := [[(((.aload_n 0), 0), ([0], [])),
  (((.iconst 0), 1), ([0], [])),
  (((.putfield 18), 2), ([5, 7, 1, 0], [])),
  (((.aload_n 0), 5), ([0], [])),
  (((.iconst 0), 6), ([0], [])),
  (((.putfield 22), 7), ([5, 7, 2, 0], [])),
  (((.iconst 0), 10), ([0], [])),
  (((.istore_n 1), 11), ([0], [])),
  (((.iload_n 1), 12), ([0], [true, true])),
  (((.bipush 17), 13), ([0], [])),
  (((.if_icmp .ge 16), 15), ([3, 18], [])),
  (((.aload_n 0), 18), ([0], [])),
  (((.getfield 15), 19), ([5, 7, 3, 3], [])),
  (((.iload_n 1), 22), ([0], [])),
  (((.iconst 0), 23), ([0], [])),
  (((.iastore), 24), ([6], []))], [(((.iinc 1 1), 25), ([0], [])),
  (((.goto (-16)), 28), ([3, 8], [])),
  (((.return_), 31), ([10], [false, false]))]]
-- 19: yX7_add
set_option maxRecDepth 100000 in
noncomputable def zcd_19 : List (List zOp) := [[(((.iconst 0), 0), ([0], [])),
  (((.istore_n 3), 1), ([0], [])),
  (((.iload_n 3), 2), ([0], [true, true, true, true])),
  (((.bipush 16), 3), ([0], [])),
  (((.if_icmp .ge 15), 5), ([3, 11], [])),
  (((.iload_n 2), 8), ([0], [])),
  (((.iload_n 3), 9), ([0], [])),
  (((.ishr), 10), ([1], [])),
  (((.ifCond .eq 9), 11), ([3, 11], [])),
  (((.iinc 3 1), 14), ([0], [])),
  (((.goto (-15)), 17), ([3, 2], [])),
  (((.aload_n 0), 20), ([0], [true, true, false, true])),
  (((.getfield 18), 21), ([5, 7, 1, 0], [])),
  (((.aload_n 0), 24), ([0], [])),
  (((.getfield 9), 25), ([5, 7, 0, 3], [])),
  (((.arraylength), 28), ([6], []))], [(((.if_icmp .lt 20), 29), ([3, 26], [])),
  (((.aload_n 0), 32), ([0], [])),
  (((.aload_n 0), 33), ([0], [])),
  (((.getfield 9), 34), ([5, 7, 0, 3], [])),
  (((.aload_n 0), 37), ([0], [])),
  (((.getfield 18), 38), ([5, 7, 1, 0], [])),
  (((.iconst 2), 41), ([0], [])),
  (((.imul), 42), ([1], [])),
  (((.invokestatic 25), 43), ([8, 5], [])),
  (((.putfield 9), 46), ([5, 7, 0, 3], [])),
  (((.aload_n 0), 49), ([0], [true, true, false, true])),
  (((.getfield 9), 50), ([5, 7, 0, 3], [])),
  (((.aload_n 0), 53), ([0], [])),
  (((.getfield 18), 54), ([5, 7, 1, 0], [])),
  (((.iload_n 3), 57), ([0], [])),
  (((.iconst 2), 58), ([0], []))], [(((.imul), 59), ([1], [])),
  (((.iload_n 1), 60), ([0], [])),
  (((.ifCond .eq 7), 61), ([3, 37], [])),
  (((.iconst 1), 64), ([0], [])),
  (((.goto 4), 65), ([3, 38], [])),
  (((.iconst 0), 68), ([0], [true, true, false, true])),
  (((.iadd), 69), ([1], [true, true, false, true])),
  (((.iastore), 70), ([6], [])),
  (((.aload_n 0), 71), ([0], [])),
  (((.dup), 72), ([0], [])),
  (((.getfield 18), 73), ([5, 7, 1, 0], [])),
  (((.iconst 1), 76), ([0], [])),
  (((.iadd), 77), ([1], [])),
  (((.putfield 18), 78), ([5, 7, 1, 0], [])),
  (((.aload_n 0), 81), ([0], [])),
  (((.dup), 82), ([0], []))], [(((.getfield 22), 83), ([5, 7, 2, 0], [])),
  (((.iload_n 1), 86), ([0], [])),
  (((.ifCond .eq 7), 87), ([3, 53], [])),
  (((.iconst 1), 90), ([0], [])),
  (((.goto 4), 91), ([3, 54], [])),
  (((.iconst 0), 94), ([0], [true, false, false, true])),
  (((.iadd), 95), ([1], [true, false, false, true])),
  (((.putfield 22), 96), ([5, 7, 2, 0], [])),
  (((.aload_n 0), 99), ([0], [])),
  (((.getfield 15), 100), ([5, 7, 3, 3], [])),
  (((.iload_n 3), 103), ([0], [])),
  (((.dup2), 104), ([0], [])),
  (((.iaload), 105), ([6], [])),
  (((.iconst 1), 106), ([0], [])),
  (((.iadd), 107), ([1], [])),
  (((.iastore), 108), ([6], []))], [(((.return_), 109), ([10], []))]]
-- 20: yX7_isBad
set_option maxRecDepth 100000 in
noncomputable def zcd_20 : List (List zOp) := [[(((.iload_n 1), 0), ([0], [])),
  (((.ifCond .lt 27), 1), ([3, 16], [])),
  (((.iload_n 1), 4), ([0], [])),
  (((.aload_n 0), 5), ([0], [])),
  (((.getfield 18), 6), ([5, 7, 1, 0], [])),
  (((.if_icmp .ge 19), 9), ([3, 16], [])),
  (((.aload_n 0), 12), ([0], [])),
  (((.getfield 9), 13), ([5, 7, 0, 3], [])),
  (((.iload_n 1), 16), ([0], [])),
  (((.iaload), 17), ([6], [])),
  (((.iconst 1), 18), ([0], [])),
  (((.iand), 19), ([1], [])),
  (((.iconst 1), 20), ([0], [])),
  (((.if_icmp .ne 7), 21), ([3, 16], [])),
  (((.iconst 1), 24), ([0], [])),
  (((.goto 4), 25), ([3, 17], []))], [(((.iconst 0), 28), ([0], [false, false])),
  (((.ireturn), 29), ([10], [false, false]))]]
-- 21: yX7_slowBucket
set_option maxRecDepth 100000 in
noncomputable def zcd_21 : List (List zOp) := [[(((.iconst 0), 0), ([0], [])),
  (((.istore_n 1), 1), ([0], [])),
  (((.iconst 0), 2), ([0], [])),
  (((.istore_n 2), 3), ([0], [])),
  (((.iload_n 2), 4), ([0], [true, true, true])),
  (((.bipush 17), 5), ([0], [])),
  (((.if_icmp .ge 28), 7), ([3, 22], [])),
  (((.iload_n 1), 10), ([0], [])),
  (((.aload_n 0), 11), ([0], [])),
  (((.getfield 15), 12), ([5, 7, 3, 3], [])),
  (((.iload_n 2), 15), ([0], [])),
  (((.iaload), 16), ([6], [])),
  (((.iadd), 17), ([1], [])),
  (((.istore_n 1), 18), ([0], [])),
  (((.aload_n 0), 19), ([0], [])),
  (((.iload_n 1), 20), ([0], []))], [(((.invokevirtual 31), 21), ([9, 23, 2, 7, 0], [])),
  (((.ifCond .eq 5), 24), ([3, 20], [])),
  (((.iload_n 2), 27), ([0], [])),
  (((.ireturn), 28), ([10], [])),
  (((.iinc 2 1), 29), ([0], [true, true, true])),
  (((.goto (-28)), 32), ([3, 4], [])),
  (((.bipush 16), 35), ([0], [false, false, false])),
  (((.ireturn), 37), ([10], []))]]
-- 22: yX7_slowBucketAnew
set_option maxRecDepth 100000 in
noncomputable def zcd_22 : List (List zOp) := [[(((.iconst 0), 0), ([0], [])),
  (((.istore_n 1), 1), ([0], [])),
  (((.iload_n 1), 2), ([0], [true, true, false, false])),
  (((.bipush 17), 3), ([0], [])),
  (((.if_icmp .ge 57), 5), ([3, 37], [])),
  (((.iconst 0), 8), ([0], [])),
  (((.istore_n 2), 9), ([0], [])),
  (((.iconst 0), 10), ([0], [])),
  (((.istore_n 3), 11), ([0], [])),
  (((.iload_n 3), 12), ([0], [true, true, true, true])),
  (((.aload_n 0), 13), ([0], [])),
  (((.getfield 18), 14), ([5, 7, 1, 0], [])),
  (((.if_icmp .ge 29), 17), ([3, 29], [])),
  (((.iload_n 2), 20), ([0], [])),
  (((.aload_n 0), 21), ([0], [])),
  (((.getfield 9), 22), ([5, 7, 0, 3], []))], [(((.iload_n 3), 25), ([0], [])),
  (((.iaload), 26), ([6], [])),
  (((.iconst 1), 27), ([0], [])),
  (((.ishr), 28), ([1], [])),
  (((.iload_n 1), 29), ([0], [])),
  (((.if_icmp .gt 7), 30), ([3, 24], [])),
  (((.iconst 1), 33), ([0], [])),
  (((.goto 4), 34), ([3, 25], [])),
  (((.iconst 0), 37), ([0], [true, true, false, true])),
  (((.iadd), 38), ([1], [true, true, false, true])),
  (((.istore_n 2), 39), ([0], [])),
  (((.iinc 3 1), 40), ([0], [])),
  (((.goto (-31)), 43), ([3, 9], [])),
  (((.aload_n 0), 46), ([0], [true, true, true, false])),
  (((.iload_n 2), 47), ([0], [])),
  (((.invokevirtual 31), 48), ([9, 23, 2, 7, 0], []))], [(((.ifCond .eq 5), 51), ([3, 35], [])),
  (((.iload_n 1), 54), ([0], [])),
  (((.ireturn), 55), ([10], [])),
  (((.iinc 1 1), 56), ([0], [true, true, false, false])),
  (((.goto (-57)), 59), ([3, 2], [])),
  (((.bipush 16), 62), ([0], [false, false, false, false])),
  (((.ireturn), 64), ([10], []))]]
-- 23: yX7_areNineTenths
set_option maxRecDepth 100000 in
noncomputable def zcd_23 : List (List zOp) := [[(((.iload_n 1), 0), ([0], [])),
  (((.bipush 10), 1), ([0], [])),
  (((.imul), 3), ([1], [])),
  (((.aload_n 0), 4), ([0], [])),
  (((.getfield 18), 5), ([5, 7, 1, 0], [])),
  (((.bipush 9), 8), ([0], [])),
  (((.imul), 10), ([1], [])),
  (((.if_icmp .lt 7), 11), ([3, 10], [])),
  (((.iconst 1), 14), ([0], [])),
  (((.goto 4), 15), ([3, 11], [])),
  (((.iconst 0), 18), ([0], [false, false])),
  (((.ireturn), 19), ([10], [false, false]))]]
-- 24: yX8_init
set_option maxRecDepth 100000 in
noncomputable def zcd_24 : List (List zOp) := [[(((.aload_n 0), 0), ([0], [])),
  (((.invokespecial 3), 1), ([8, 0], [])),
  (((.aload_n 0), 4), ([0], [])),
  (((.iconst 3), 5), ([0], [])),
  (((.anewarray 9), 6), ([7, 27], [])),
  (((.putfield 11), 9), ([5, 8, 0, 3], [])),
  (((.aload_n 0), 12), ([0], [])),
  (((.bipush 8), 13), ([0], [])),
  (((.newarray .int), 15), ([7, 28], [])),
  (((.putfield 17), 17), ([5, 8, 1, 3], [])),
  (((.aload_n 0), 20), ([0], [])),
  (((.sipush 200), 21), ([0], [])),
  (((.anewarray 21), 24), ([7, 29], [])),
  (((.putfield 23), 27), ([5, 8, 2, 3], [])),
  (((.aload_n 0), 30), ([0], [])),
  (((.iconst 1), 31), ([0], []))], [(((.putfield 27), 32), ([5, 8, 3, 0], [])),
  (((.aload_n 0), 35), ([0], [])),
  (((.iconst (-1)), 36), ([0], [])),
  (((.putfield 31), 37), ([5, 8, 4, 0], [])),
  (((.aload_n 0), 40), ([0], [])),
  (((.iconst (-1)), 41), ([0], [])),
  (((.putfield 34), 42), ([5, 8, 5, 0], [])),
  (((.iconst 0), 45), ([0], [])),
  (((.istore_n 1), 46), ([0], [])),
  (((.iload_n 1), 47), ([0], [true, true])),
  (((.iconst 3), 48), ([0], [])),
  (((.if_icmp .ge 22), 49), ([3, 37], [])),
  (((.aload_n 0), 52), ([0], [])),
  (((.getfield 11), 53), ([5, 8, 0, 3], [])),
  (((.iload_n 1), 56), ([0], [])),
  (((.new 9), 57), ([7, 10], []))], [(((.dup), 60), ([0], [])),
  (((.invokespecial 37), 61), ([9, 27, 1, 9, 4], [])),
  (((.aastore), 64), ([6], [])),
  (((.iinc 1 1), 65), ([0], [])),
  (((.goto (-21)), 68), ([3, 25], [])),
  (((.return_), 71), ([10], [false, false]))]]
-- 25: yX8_suitsData
set_option maxRecDepth 100000 in
noncomputable def zcd_25 : List (List zOp) := [[(((.iconst 0), 0), ([0], [])),
  (((.istore_n 2), 1), ([0], [])),
  (((.iconst 0), 2), ([0], [])),
  (((.istore_n 3), 3), ([0], [])),
  (((.iload_n 3), 4), ([0], [true, true, true, true])),
  (((.bipush 8), 5), ([0], [])),
  (((.if_icmp .ge 32), 7), ([3, 24], [])),
  (((.aload_n 0), 10), ([0], [])),
  (((.getfield 17), 11), ([5, 8, 1, 3], [])),
  (((.iload_n 3), 14), ([0], [])),
  (((.iaload), 15), ([6], [])),
  (((.ifCond .gt 11), 16), ([3, 16], [])),
  (((.iload_n 3), 19), ([0], [])),
  (((.aload_n 0), 20), ([0], [])),
  (((.getfield 34), 21), ([5, 8, 5, 0], [])),
  (((.if_icmp .ne 9), 24), ([3, 22], []))], [(((.iload_n 2), 27), ([0], [true, true, true, true])),
  (((.iconst 1), 28), ([0], [])),
  (((.iload_n 3), 29), ([0], [])),
  (((.ishl), 30), ([1], [])),
  (((.ior), 31), ([1], [])),
  (((.istore_n 2), 32), ([0], [])),
  (((.iinc 3 1), 33), ([0], [true, true, true, true])),
  (((.goto (-32)), 36), ([3, 4], [])),
  (((.aload_n 0), 39), ([0], [true, true, true, false])),
  (((.getfield 27), 40), ([5, 8, 3, 0], [])),
  (((.aload_n 1), 43), ([0], [])),
  (((.getfield 38), 44), ([5, 0, 7, 0], [])),
  (((.invokestatic 41), 47), ([9, 133, 2, 99, 3], [])),
  (((.ifCond .eq 18), 50), ([3, 39], [])),
  (((.iload_n 2), 53), ([0], [])),
  (((.aload_n 1), 54), ([0], []))], [(((.getfield 45), 55), ([5, 0, 6, 0], [])),
  (((.iconst (-1)), 58), ([0], [])),
  (((.ixor), 59), ([1], [])),
  (((.iand), 60), ([1], [])),
  (((.ifCond .ne 7), 61), ([3, 39], [])),
  (((.iconst 1), 64), ([0], [])),
  (((.goto 4), 65), ([3, 40], [])),
  (((.iconst 0), 68), ([0], [false, false, false, false])),
  (((.ireturn), 69), ([10], [false, false, false, false]))]]
-- 26: yX8_growData
set_option maxRecDepth 100000 in
noncomputable def zcd_26 : List (List zOp) := [[(((.iconst 0), 0), ([0], [])),
  (((.istore_n 1), 1), ([0], [])),
  (((.iload_n 1), 2), ([0], [true, true, false])),
  (((.iconst 3), 3), ([0], [])),
  (((.if_icmp .ge 62), 4), ([3, 38], [])),
  (((.aload_n 0), 7), ([0], [])),
  (((.getfield 11), 8), ([5, 8, 0, 3], [])),
  (((.iload_n 1), 11), ([0], [])),
  (((.aaload), 12), ([6], [])),
  (((.astore_n 2), 13), ([0], [])),
  (((.aload_n 2), 14), ([0], [])),
  (((.getfield 48), 15), ([5, 9, 0, 3], [])),
  (((.ifnull 19), 18), ([3, 23], [])),
  (((.aload_n 0), 21), ([0], [])),
  (((.getfield 17), 22), ([5, 8, 1, 3], [])),
  (((.aload_n 2), 25), ([0], []))], [(((.getfield 48), 26), ([5, 9, 0, 3], [])),
  (((.getfield 38), 29), ([5, 0, 7, 0], [])),
  (((.dup2), 32), ([0], [])),
  (((.iaload), 33), ([6], [])),
  (((.iconst 1), 34), ([0], [])),
  (((.iadd), 35), ([1], [])),
  (((.iastore), 36), ([6], [])),
  (((.aload_n 2), 37), ([0], [true, true, true])),
  (((.getfield 52), 38), ([5, 9, 1, 3], [])),
  (((.ifnull 19), 41), ([3, 36], [])),
  (((.aload_n 0), 44), ([0], [])),
  (((.getfield 17), 45), ([5, 8, 1, 3], [])),
  (((.aload_n 2), 48), ([0], [])),
  (((.getfield 52), 49), ([5, 9, 1, 3], [])),
  (((.getfield 38), 52), ([5, 0, 7, 0], [])),
  (((.dup2), 55), ([0], []))], [(((.iaload), 56), ([6], [])),
  (((.iconst 1), 57), ([0], [])),
  (((.iadd), 58), ([1], [])),
  (((.iastore), 59), ([6], [])),
  (((.iinc 1 1), 60), ([0], [true, true, false])),
  (((.goto (-61)), 63), ([3, 2], [])),
  (((.aload_n 0), 66), ([0], [true, false, false])),
  (((.getfield 31), 67), ([5, 8, 4, 0], [])),
  (((.iconst (-1)), 70), ([0], [])),
  (((.if_icmp .eq 61), 71), ([3, 78], [])),
  (((.aload_n 0), 74), ([0], [])),
  (((.getfield 34), 75), ([5, 8, 5, 0], [])),
  (((.iconst (-1)), 78), ([0], [])),
  (((.if_icmp .eq 53), 79), ([3, 78], [])),
  (((.iconst 5), 82), ([0], [])),
  (((.aload_n 0), 83), ([0], []))], [(((.getfield 17), 84), ([5, 8, 1, 3], [])),
  (((.aload_n 0), 87), ([0], [])),
  (((.getfield 31), 88), ([5, 8, 4, 0], [])),
  (((.iaload), 91), ([6], [])),
  (((.invokestatic 55), 92), ([8, 6], [])),
  (((.istore_n 1), 95), ([0], [])),
  (((.aload_n 0), 96), ([0], [])),
  (((.getfield 17), 97), ([5, 8, 1, 3], [])),
  (((.aload_n 0), 100), ([0], [])),
  (((.getfield 31), 101), ([5, 8, 4, 0], [])),
  (((.dup2), 104), ([0], [])),
  (((.iaload), 105), ([6], [])),
  (((.iload_n 1), 106), ([0], [])),
  (((.isub), 107), ([1], [])),
  (((.iastore), 108), ([6], [])),
  (((.aload_n 0), 109), ([0], []))], [(((.getfield 17), 110), ([5, 8, 1, 3], [])),
  (((.aload_n 0), 113), ([0], [])),
  (((.getfield 34), 114), ([5, 8, 5, 0], [])),
  (((.dup2), 117), ([0], [])),
  (((.iaload), 118), ([6], [])),
  (((.iload_n 1), 119), ([0], [])),
  (((.iadd), 120), ([1], [])),
  (((.iastore), 121), ([6], [])),
  (((.aload_n 0), 122), ([0], [])),
  (((.dup), 123), ([0], [])),
  (((.getfield 61), 124), ([5, 8, 6, 0], [])),
  (((.iload_n 1), 127), ([0], [])),
  (((.iadd), 128), ([1], [])),
  (((.putfield 61), 129), ([5, 8, 6, 0], [])),
  (((.return_), 132), ([10], [false, false, false]))]]
-- 27: yX9_init
set_option maxRecDepth 100000 in
noncomputable def zcd_27 : List (List zOp) := [[(((.aload_n 0), 0), ([0], [])),
  (((.invokespecial 3), 1), ([8, 0], [])),
  (((.aload_n 0), 4), ([0], [])),
  (((.dconst 1), 5), ([0], [])),
  (((.putfield 9), 6), ([5, 9, 4, 2], [])),
  (((.aload_n 0), 9), ([0], [])),
  (((.new 15), 10), ([7, 7], [])),
  (((.dup), 13), ([0], [])),
  (((.invokespecial 17), 14), ([9, 17, 1, 7, 4], [])),
  (((.putfield 18), 17), ([5, 9, 5, 3], [])),
  (((.aload_n 0), 20), ([0], [])),
  (((.new 15), 21), ([7, 8], [])),
  (((.dup), 24), ([0], [])),
  (((.invokespecial 17), 25), ([9, 17, 1, 7, 4], [])),
  (((.putfield 22), 28), ([5, 9, 6, 3], [])),
  (((.return_), 31), ([10], []))]]
-- 28: yX9_hasNewerThan
set_option maxRecDepth 100000 in
noncomputable def zcd_28 : List (List zOp) := [[(((.aload_n 0), 0), ([0], [])),
  (((.getfield 25), 1), ([5, 9, 0, 3], [])),
  (((.ifnull 21), 4), ([3, 11], [])),
  (((.aload_n 0), 7), ([0], [])),
  (((.getfield 25), 8), ([5, 9, 0, 3], [])),
  (((.getfield 29), 11), ([5, 0, 0, 0], [])),
  (((.aload_n 1), 14), ([0], [])),
  (((.getfield 29), 15), ([5, 0, 0, 0], [])),
  (((.if_icmp .le 7), 18), ([3, 11], [])),
  (((.iconst 1), 21), ([0], [])),
  (((.goto 4), 22), ([3, 12], [])),
  (((.iconst 0), 25), ([0], [false, false])),
  (((.ireturn), 26), ([10], [false, false]))]]
-- 29: yX9_become
set_option maxRecDepth 100000 in
noncomputable def zcd_29 : List (List zOp) := [[(((.aload_n 1), 0), ([0], [])),
  (((.aload_n 0), 1), ([0], [])),
  (((.getfield 25), 2), ([5, 9, 0, 3], [])),
  (((.if_acmp .ne 20), 5), ([3, 13], [])),
  (((.aload_n 2), 8), ([0], [])),
  (((.aload_n 0), 9), ([0], [])),
  (((.getfield 35), 10), ([5, 9, 1, 3], [])),
  (((.if_acmp .ne 12), 13), ([3, 13], [])),
  (((.iload_n 3), 16), ([0], [])),
  (((.aload_n 0), 17), ([0], [])),
  (((.getfield 38), 18), ([5, 9, 2, 0], [])),
  (((.if_icmp .ne 4), 21), ([3, 13], [])),
  (((.return_), 24), ([10], [])),
  (((.aload_n 0), 25), ([0], [true, true, true, true])),
  (((.iconst 1), 26), ([0], [])),
  (((.putfield 41), 27), ([5, 9, 3, 1], []))], [(((.aload_n 1), 30), ([0], [])),
  (((.aload_n 0), 31), ([0], [])),
  (((.getfield 25), 32), ([5, 9, 0, 3], [])),
  (((.if_acmp .ne 11), 35), ([3, 24], [])),
  (((.aload_n 2), 38), ([0], [])),
  (((.aload_n 0), 39), ([0], [])),
  (((.getfield 35), 40), ([5, 9, 1, 3], [])),
  (((.if_acmp .eq 22), 43), ([3, 33], [])),
  (((.aload_n 0), 46), ([0], [true, true, true, true])),
  (((.dconst 1), 47), ([0], [])),
  (((.putfield 9), 48), ([5, 9, 4, 2], [])),
  (((.aload_n 0), 51), ([0], [])),
  (((.getfield 18), 52), ([5, 9, 5, 3], [])),
  (((.invokevirtual 45), 55), ([9, 18, 1, 7, 0], [])),
  (((.aload_n 0), 58), ([0], [])),
  (((.getfield 22), 59), ([5, 9, 6, 3], []))], [(((.invokevirtual 45), 62), ([9, 18, 1, 7, 0], [])),
  (((.aload_n 0), 65), ([0], [true, true, true, true])),
  (((.getfield 25), 66), ([5, 9, 0, 3], [])),
  (((.iconst (-1)), 69), ([0], [])),
  (((.invokestatic 48), 70), ([9, 30, 2, 99, 1], [])),
  (((.aload_n 0), 73), ([0], [])),
  (((.getfield 35), 74), ([5, 9, 1, 3], [])),
  (((.iconst (-1)), 77), ([0], [])),
  (((.invokestatic 48), 78), ([9, 30, 2, 99, 1], [])),
  (((.aload_n 1), 81), ([0], [])),
  (((.iconst 1), 82), ([0], [])),
  (((.invokestatic 48), 83), ([9, 30, 2, 99, 1], [])),
  (((.aload_n 2), 86), ([0], [])),
  (((.iconst 1), 87), ([0], [])),
  (((.invokestatic 48), 88), ([9, 30, 2, 99, 1], [])),
  (((.aload_n 0), 91), ([0], []))], [(((.aload_n 1), 92), ([0], [])),
  (((.putfield 25), 93), ([5, 9, 0, 3], [])),
  (((.aload_n 0), 96), ([0], [])),
  (((.aload_n 2), 97), ([0], [])),
  (((.putfield 35), 98), ([5, 9, 1, 3], [])),
  (((.aload_n 0), 101), ([0], [])),
  (((.iload_n 3), 102), ([0], [])),
  (((.putfield 38), 103), ([5, 9, 2, 0], [])),
  (((.return_), 106), ([10], []))]]
-- 30: yX9_addUse
set_option maxRecDepth 100000 in
noncomputable def zcd_30 : List (List zOp) := [[(((.aload_n 0), 0), ([0], [])),
  (((.ifnull 13), 1), ([3, 8], [])),
  (((.aload_n 0), 4), ([0], [])),
  (((.dup), 5), ([0], [])),
  (((.getfield 52), 6), ([5, 0, 10, 0], [])),
  (((.iload_n 1), 9), ([0], [])),
  (((.iadd), 10), ([1], [])),
  (((.putfield 52), 11), ([5, 0, 10, 0], [])),
  (((.return_), 14), ([10], [false, false]))]]
-- 31: yX9_sampleOf
set_option maxRecDepth 100000 in
noncomputable def zcd_31 : List (List zOp) := [[(((.iload_n 1), 0), ([0], [])),
  (((.ifCond .eq 10), 1), ([3, 5], [])),
  (((.aload_n 0), 4), ([0], [])),
  (((.getfield 18), 5), ([5, 9, 5, 3], [])),
  (((.goto 7), 8), ([3, 7], [])),
  (((.aload_n 0), 11), ([0], [true, false])),
  (((.getfield 22), 12), ([5, 9, 6, 3], [])),
  (((.areturn), 15), ([10], [false, false]))]]
-- 32: yX9_takeMeasure
set_option maxRecDepth 100000 in
noncomputable def zcd_32 : List (List zOp) := [[(((.aload_n 0), 0), ([0], [])),
  (((.iload_n 1), 1), ([0], [])),
  (((.invokevirtual 55), 2), ([9, 31, 2, 9, 0], [])),
  (((.astore 4), 5), ([0], [])),
  (((.aload 4), 7), ([0], [])),
  (((.iload_n 2), 9), ([0], [])),
  (((.iload_n 3), 10), ([0], [])),
  (((.invokevirtual 59), 11), ([9, 19, 3, 7, 0], [])),
  (((.aload 4), 14), ([0], [])),
  (((.getfield 63), 16), ([5, 7, 1, 0], [])),
  (((.aload_n 0), 19), ([0], [])),
  (((.iload_n 1), 20), ([0], [])),
  (((.ifCond .ne 7), 21), ([3, 15], [])),
  (((.iconst 1), 24), ([0], [])),
  (((.goto 4), 25), ([3, 16], [])),
  (((.iconst 0), 28), ([0], [true, false, false, false, true]))], [(((.invokevirtual 55), 29), ([9, 31, 2, 9, 0], [true, false, false, false, true])),
  (((.getfield 63), 32), ([5, 7, 1, 0], [])),
  (((.if_icmp .gt 22), 35), ([3, 29], [])),
  (((.aload_n 0), 38), ([0], [])),
  (((.aload_n 0), 39), ([0], [])),
  (((.aload_n 0), 40), ([0], [])),
  (((.getfield 9), 41), ([5, 9, 4, 2], [])),
  (((.aload 4), 44), ([0], [])),
  (((.getfield 63), 46), ([5, 7, 1, 0], [])),
  (((.iconst 1), 49), ([0], [])),
  (((.isub), 50), ([1], [])),
  (((.invokevirtual 66), 51), ([9, 33, 3, 9, 0], [])),
  (((.putfield 9), 54), ([5, 9, 4, 2], [])),
  (((.aload 4), 57), ([0], [false, false, false, false, true])),
  (((.getfield 63), 59), ([5, 7, 1, 0], [])),
  (((.ireturn), 62), ([10], []))]]
-- 33: yX9_capitalBehindPair
set_option maxRecDepth 100000 in
noncomputable def zcd_33 : List (List zOp) := [[(((.aload_n 0), 0), ([0], [])),
  (((.getfield 18), 1), ([5, 9, 5, 3], [])),
  (((.iload_n 3), 4), ([0], [])),
  (((.invokevirtual 70), 5), ([9, 20, 2, 7, 0], [])),
  (((.istore 4), 8), ([0], [])),
  (((.dload_n 1), 10), ([0], [])),
  (((.ldc2_w 74), 11), ([0, 4626322717216342016], [])),
  (((.dcmp .l), 14), ([2], [])),
  (((.ifCond .ge 16), 15), ([3, 15], [])),
  (((.iload 4), 18), ([0], [])),
  (((.aload_n 0), 20), ([0], [])),
  (((.getfield 22), 21), ([5, 9, 6, 3], [])),
  (((.iload_n 3), 24), ([0], [])),
  (((.invokevirtual 70), 25), ([9, 20, 2, 7, 0], [])),
  (((.if_icmp .ne 5), 28), ([3, 17], [])),
  (((.dload_n 1), 31), ([0], [false, true, false, false, false]))], [(((.dreturn), 32), ([10], [])),
  (((.iload 4), 33), ([0], [false, true, false, false, true])),
  (((.ifCond .eq 11), 35), ([3, 23], [])),
  (((.dload_n 1), 38), ([0], [])),
  (((.ldc2_w 76), 39), ([0, 4609434218613702656], [])),
  (((.dmul), 42), ([1], [])),
  (((.goto 8), 43), ([3, 26], [])),
  (((.dload_n 1), 46), ([0], [false, true, false, false, false])),
  (((.ldc2_w 78), 47), ([0, 4602678819172646912], [])),
  (((.dmul), 50), ([1], [])),
  (((.dreturn), 51), ([10], [false, false, false, false, false]))]]
-- 34: yX9_judgement
set_option maxRecDepth 100000 in
noncomputable def zcd_34 : List (List zOp) := [[(((.aload_n 0), 0), ([0], [])),
  (((.aload_n 0), 1), ([0], [])),
  (((.getfield 9), 2), ([5, 9, 4, 2], [])),
  (((.aload_n 0), 5), ([0], [])),
  (((.getfield 18), 6), ([5, 9, 5, 3], [])),
  (((.invokevirtual 80), 9), ([9, 21, 1, 7, 0], [])),
  (((.aload_n 0), 12), ([0], [])),
  (((.getfield 22), 13), ([5, 9, 6, 3], [])),
  (((.invokevirtual 80), 16), ([9, 21, 1, 7, 0], [])),
  (((.invokevirtual 84), 19), ([9, 36, 4, 9, 0], [])),
  (((.ireturn), 22), ([10], []))]]
-- 35: yX9_judgementAnew
set_option maxRecDepth 100000 in
noncomputable def zcd_35 : List (List zOp) := [[(((.dconst 1), 0), ([0], [])),
  (((.dstore_n 1), 1), ([0], [])),
  (((.iconst 0), 2), ([0], [])),
  (((.istore_n 3), 3), ([0], [])),
  (((.iload_n 3), 4), ([0], [true, true, false, true])),
  (((.aload_n 0), 5), ([0], [])),
  (((.invokevirtual 88), 6), ([9, 37, 1, 9, 0], [])),
  (((.if_icmp .ge 16), 9), ([3, 15], [])),
  (((.aload_n 0), 12), ([0], [])),
  (((.dload_n 1), 13), ([0], [])),
  (((.iload_n 3), 14), ([0], [])),
  (((.invokevirtual 66), 15), ([9, 33, 3, 9, 0], [])),
  (((.dstore_n 1), 18), ([0], [])),
  (((.iinc 3 1), 19), ([0], [])),
  (((.goto (-18)), 22), ([3, 4], [])),
  (((.aload_n 0), 25), ([0], [true, true, false, false]))], [(((.dload_n 1), 26), ([0], [])),
  (((.aload_n 0), 27), ([0], [])),
  (((.getfield 18), 28), ([5, 9, 5, 3], [])),
  (((.invokevirtual 91), 31), ([9, 22, 1, 7, 0], [])),
  (((.aload_n 0), 34), ([0], [])),
  (((.getfield 22), 35), ([5, 9, 6, 3], [])),
  (((.invokevirtual 91), 38), ([9, 22, 1, 7, 0], [])),
  (((.invokevirtual 84), 41), ([9, 36, 4, 9, 0], [])),
  (((.ireturn), 44), ([10], []))]]
-- 36: yX9_judgementBy
set_option maxRecDepth 100000 in
noncomputable def zcd_36 : List (List zOp) := [[(((.aload_n 0), 0), ([0], [])),
  (((.invokevirtual 88), 1), ([9, 37, 1, 9, 0], [])),
  (((.bipush 10), 4), ([0], [])),
  (((.if_icmp .lt 15), 6), ([3, 11], [])),
  (((.iload_n 3), 9), ([0], [])),
  (((.iload 4), 10), ([0], [])),
  (((.iconst 1), 12), ([0], [])),
  (((.iadd), 13), ([1], [])),
  (((.if_icmp .le 7), 14), ([3, 11], [])),
  (((.iconst 1), 17), ([0], [])),
  (((.goto 4), 18), ([3, 12], [])),
  (((.iconst 0), 21), ([0], [true, true, false, false, false, false])),
  (((.istore 5), 22), ([0], [true, true, false, false, false, false])),
  (((.dload_n 1), 24), ([0], [])),
  (((.ldc2_w 74), 25), ([0, 4626322717216342016], [])),
  (((.dcmp .l), 28), ([2], []))], [(((.ifCond .ge 8), 29), ([3, 19], [])),
  (((.iload 5), 32), ([0], [])),
  (((.ifCond .eq 5), 34), ([3, 21], [])),
  (((.iconst 2), 37), ([0], [false, false, false, false, false, false])),
  (((.ireturn), 38), ([10], [])),
  (((.aload_n 0), 39), ([0], [true, false, false, false, false, false])),
  (((.invokevirtual 88), 40), ([9, 37, 1, 9, 0], [])),
  (((.bipush 20), 43), ([0], [])),
  (((.if_icmp .lt 7), 45), ([3, 27], [])),
  (((.iconst 1), 48), ([0], [])),
  (((.goto 4), 49), ([3, 28], [])),
  (((.iconst 0), 52), ([0], [false, false, false, false, false, false])),
  (((.ireturn), 53), ([10], [false, false, false, false, false, false]))]]
-- 37: yX9_pairs
set_option maxRecDepth 100000 in
noncomputable def zcd_37 : List (List zOp) := [[(((.aload_n 0), 0), ([0], [])),
  (((.getfield 18), 1), ([5, 9, 5, 3], [])),
  (((.getfield 63), 4), ([5, 7, 1, 0], [])),
  (((.aload_n 0), 7), ([0], [])),
  (((.getfield 22), 8), ([5, 9, 6, 3], [])),
  (((.getfield 63), 11), ([5, 7, 1, 0], [])),
  (((.invokestatic 94), 14), ([8, 6], [])),
  (((.ireturn), 17), ([10], []))]]
-- 38: yL_law
set_option maxRecDepth 100000 in
noncomputable def zcd_38 : List (List zOp) := []
-- 39: yX11_init
set_option maxRecDepth 100000 in
noncomputable def zcd_39 : List (List zOp) := [[(((.aload_n 0), 0), ([0], [])),
  (((.invokespecial 1), 1), ([8, 0], [])),
  (((.aload_n 0), 4), ([0], [])),
  (((.new 7), 5), ([7, 14], [])),
  (((.dup), 8), ([0], [])),
  (((.invokespecial 9), 9), ([8, 1], [])),
  (((.putfield 10), 12), ([5, 11, 0, 3], [])),
  (((.aload_n 0), 15), ([0], [])),
  (((.new 7), 16), ([7, 15], [])),
  (((.dup), 19), ([0], [])),
  (((.invokespecial 9), 20), ([8, 1], [])),
  (((.putfield 16), 23), ([5, 11, 1, 3], [])),
  (((.aload_n 0), 26), ([0], [])),
  (((.new 7), 27), ([7, 16], [])),
  (((.dup), 30), ([0], [])),
  (((.invokespecial 9), 31), ([8, 1], []))], [(((.putfield 19), 34), ([5, 11, 2, 3], [])),
  (((.aload_n 0), 37), ([0], [])),
  (((.new 7), 38), ([7, 17], [])),
  (((.dup), 41), ([0], [])),
  (((.invokespecial 9), 42), ([8, 1], [])),
  (((.putfield 22), 45), ([5, 11, 3, 3], [])),
  (((.aload_n 0), 48), ([0], [])),
  (((.new 7), 49), ([7, 18], [])),
  (((.dup), 52), ([0], [])),
  (((.invokespecial 9), 53), ([8, 1], [])),
  (((.putfield 25), 56), ([5, 11, 4, 3], [])),
  (((.aload_n 0), 59), ([0], [])),
  (((.new 7), 60), ([7, 19], [])),
  (((.dup), 63), ([0], [])),
  (((.invokespecial 9), 64), ([8, 1], [])),
  (((.putfield 28), 67), ([5, 11, 5, 3], []))], [(((.aload_n 0), 70), ([0], [])),
  (((.iconst 4), 71), ([0], [])),
  (((.anewarray 31), 72), ([7, 33], [])),
  (((.putfield 33), 75), ([5, 11, 6, 3], [])),
  (((.aload_n 0), 78), ([0], [])),
  (((.bipush 8), 79), ([0], [])),
  (((.anewarray 37), 81), ([7, 34], [])),
  (((.putfield 39), 84), ([5, 11, 7, 3], [])),
  (((.aload_n 0), 87), ([0], [])),
  (((.iconst 3), 88), ([0], [])),
  (((.newarray .int), 89), ([7, 35], [])),
  (((.putfield 43), 91), ([5, 11, 8, 3], [])),
  (((.aload_n 0), 94), ([0], [])),
  (((.iconst 3), 95), ([0], [])),
  (((.newarray .int), 96), ([7, 36], [])),
  (((.putfield 47), 98), ([5, 11, 9, 3], []))], [(((.aload_n 0), 101), ([0], [])),
  (((.sipush 200), 102), ([0], [])),
  (((.newarray .int), 105), ([7, 37], [])),
  (((.putfield 50), 107), ([5, 11, 10, 3], [])),
  (((.aload_n 0), 110), ([0], [])),
  (((.iconst 0), 111), ([0], [])),
  (((.putfield 53), 112), ([5, 11, 12, 0], [])),
  (((.iconst 0), 115), ([0], [])),
  (((.istore_n 1), 116), ([0], [])),
  (((.iload_n 1), 117), ([0], [true, true])),
  (((.iconst 4), 118), ([0], [])),
  (((.if_icmp .ge 22), 119), ([3, 69], [])),
  (((.aload_n 0), 122), ([0], [])),
  (((.getfield 33), 123), ([5, 11, 6, 3], [])),
  (((.iload_n 1), 126), ([0], [])),
  (((.new 31), 127), ([7, 9], []))], [(((.dup), 130), ([0], [])),
  (((.invokespecial 57), 131), ([9, 24, 1, 8, 2], [])),
  (((.aastore), 134), ([6], [])),
  (((.iinc 1 1), 135), ([0], [])),
  (((.goto (-21)), 138), ([3, 57], [])),
  (((.iconst 0), 141), ([0], [true, false])),
  (((.istore_n 1), 142), ([0], [])),
  (((.iload_n 1), 143), ([0], [true, true])),
  (((.bipush 8), 144), ([0], [])),
  (((.if_icmp .ge 22), 146), ([3, 83], [])),
  (((.aload_n 0), 149), ([0], [])),
  (((.getfield 39), 150), ([5, 11, 7, 3], [])),
  (((.iload_n 1), 153), ([0], [])),
  (((.new 37), 154), ([7, 2], [])),
  (((.dup), 157), ([0], [])),
  (((.invokespecial 58), 158), ([9, 4, 1, 2, 4], []))], [(((.aastore), 161), ([6], [])),
  (((.iinc 1 1), 162), ([0], [])),
  (((.goto (-22)), 165), ([3, 71], [])),
  (((.return_), 168), ([10], [false, false]))]]
-- 40: yX11_artefact
set_option maxRecDepth 100000 in
noncomputable def zcd_40 : List (List zOp) := [[(((.iload_n 1), 0), ([0], [])),
  (((.iconst 0), 1), ([0], [])),
  (((.iconst 3), 2), ([0], [])),
  (((.invokestatic 59), 3), ([9, 131, 3, 99, 1], [])),
  (((.iload_n 2), 6), ([0], [])),
  (((.iconst 0), 7), ([0], [])),
  (((.iconst 5), 8), ([0], [])),
  (((.invokestatic 59), 9), ([9, 131, 3, 99, 1], [])),
  (((.iload_n 3), 12), ([0], [])),
  (((.iconst 0), 13), ([0], [])),
  (((.sipush 255), 14), ([0], [])),
  (((.invokestatic 59), 17), ([9, 131, 3, 99, 1], [])),
  (((.iload 4), 20), ([0], [])),
  (((.iconst 0), 22), ([0], [])),
  (((.sipush 255), 23), ([0], [])),
  (((.invokestatic 59), 26), ([9, 131, 3, 99, 1], []))], [(((.iload_n 1), 29), ([0], [])),
  (((.iload 4), 30), ([0], [])),
  (((.iload 5), 32), ([0], [])),
  (((.invokestatic 63), 34), ([9, 41, 3, 99, 1], [])),
  (((.iload 6), 37), ([0], [])),
  (((.iconst 1), 39), ([0], [])),
  (((.sipush 255), 40), ([0], [])),
  (((.invokestatic 59), 43), ([9, 131, 3, 99, 1], [])),
  (((.iload 7), 46), ([0], [])),
  (((.iconst 0), 48), ([0], [])),
  (((.bipush 7), 49), ([0], [])),
  (((.invokestatic 59), 51), ([9, 131, 3, 99, 1], [])),
  (((.iload 6), 54), ([0], [])),
  (((.iload 7), 56), ([0], [])),
  (((.invokestatic 66), 58), ([9, 133, 2, 99, 1], [])),
  (((.ifCond .ne 13), 61), ([3, 37], []))], [(((.new 70), 64), ([11, 0], [])),
  (((.dup), 67), ([12], [])),
  (((.ldc 72), 68), ([12], [])),
  (((.invokespecial 74), 70), ([12], [])),
  (((.athrow), 73), ([12], [])),
  (((.aload_n 0), 74), ([0], [true, true, true, true, true, true, true, true, true, true, false])),
  (((.getfield 10), 75), ([5, 11, 0, 3], [])),
  (((.invokeinterface 77 1), 78), ([8, 2], [])),
  (((.bipush 30), 83), ([0], [])),
  (((.if_icmp .lt 13), 85), ([3, 47], [])),
  (((.new 83), 88), ([11, 1], [])),
  (((.dup), 91), ([12], [])),
  (((.ldc 85), 92), ([12], [])),
  (((.invokespecial 87), 94), ([12], [])),
  (((.athrow), 97), ([12], [])),
  (((.new 88), 98), ([7, 0], [true, true, true, true, true, true, true, true, true, true, false]))], [(((.dup), 101), ([0], [])),
  (((.aload_n 0), 102), ([0], [])),
  (((.getfield 10), 103), ([5, 11, 0, 3], [])),
  (((.invokeinterface 77 1), 106), ([8, 2], [])),
  (((.iload_n 1), 111), ([0], [])),
  (((.iload_n 2), 112), ([0], [])),
  (((.invokespecial 90), 113), ([9, 0, 4, 0, 2], [])),
  (((.astore 10), 116), ([0], [])),
  (((.aload 10), 118), ([0], [])),
  (((.iload_n 3), 120), ([0], [])),
  (((.putfield 92), 121), ([5, 0, 3, 0], [])),
  (((.aload 10), 124), ([0], [])),
  (((.iload 4), 126), ([0], [])),
  (((.putfield 95), 128), ([5, 0, 4, 0], [])),
  (((.aload 10), 131), ([0], [])),
  (((.iload 5), 133), ([0], []))], [(((.putfield 98), 135), ([5, 0, 5, 0], [])),
  (((.aload 10), 138), ([0], [])),
  (((.iload 6), 140), ([0], [])),
  (((.putfield 101), 142), ([5, 0, 6, 0], [])),
  (((.aload 10), 145), ([0], [])),
  (((.iload 7), 147), ([0], [])),
  (((.putfield 104), 149), ([5, 0, 7, 0], [])),
  (((.aload 10), 152), ([0], [])),
  (((.iload 8), 154), ([0], [])),
  (((.putfield 107), 156), ([5, 0, 8, 1], [])),
  (((.aload 10), 159), ([0], [])),
  (((.iload 9), 161), ([0], [])),
  (((.putfield 111), 163), ([5, 0, 9, 1], [])),
  (((.aload_n 0), 166), ([0], [])),
  (((.getfield 10), 167), ([5, 11, 0, 3], [])),
  (((.aload 10), 170), ([0], []))], [(((.invokeinterface 114 2), 172), ([8, 4], [])),
  (((.pop), 177), ([0], [])),
  (((.aload 10), 178), ([0], [])),
  (((.getfield 118), 180), ([5, 0, 0, 0], [])),
  (((.ireturn), 183), ([10], []))]]
-- 41: yX11_checkNeeded
set_option maxRecDepth 100000 in
noncomputable def zcd_41 : List (List zOp) := [[(((.iload_n 1), 0), ([0], [])),
  (((.ifCond .ne 10), 1), ([3, 7], [])),
  (((.iload_n 2), 4), ([0], [])),
  (((.iconst (-1)), 5), ([0], [])),
  (((.iconst (-1)), 6), ([0], [])),
  (((.invokestatic 59), 7), ([9, 131, 3, 99, 1], [])),
  (((.return_), 10), ([10], [])),
  (((.iload_n 2), 11), ([0], [true, false, true])),
  (((.iconst 0), 12), ([0], [])),
  (((.iconst 3), 13), ([0], [])),
  (((.invokestatic 59), 14), ([9, 131, 3, 99, 1], [])),
  (((.iload_n 2), 17), ([0], [])),
  (((.iload_n 0), 18), ([0], [])),
  (((.if_icmp .ne 13), 19), ([3, 19], [])),
  (((.new 70), 22), ([11, 0], [])),
  (((.dup), 25), ([12], []))], [(((.ldc 121), 26), ([12], [])),
  (((.invokespecial 74), 28), ([12], [])),
  (((.athrow), 31), ([12], [])),
  (((.return_), 32), ([10], [false, false, false]))]]
-- 42: yL_law
set_option maxRecDepth 100000 in
noncomputable def zcd_42 : List (List zOp) := []
-- 43: yX11_isLive
set_option maxRecDepth 100000 in
noncomputable def zcd_43 : List (List zOp) := [[(((.iload_n 1), 0), ([0], [])),
  (((.aload_n 0), 1), ([0], [])),
  (((.getfield 10), 2), ([5, 11, 0, 3], [])),
  (((.invokeinterface 77 1), 5), ([8, 2], [])),
  (((.invokestatic 123), 10), ([9, 130, 2, 99, 1], [])),
  (((.aload_n 0), 13), ([0], [])),
  (((.getfield 10), 14), ([5, 11, 0, 3], [])),
  (((.iload_n 1), 17), ([0], [])),
  (((.invokeinterface 127 2), 18), ([8, 3], [])),
  (((.checkcast 88), 23), ([7, 0], [])),
  (((.getfield 135), 26), ([5, 0, 10, 0], [])),
  (((.ifCond .le 7), 29), ([3, 14], [])),
  (((.iconst 1), 32), ([0], [])),
  (((.goto 4), 33), ([3, 15], [])),
  (((.iconst 0), 36), ([0], [false, false])),
  (((.ireturn), 37), ([10], [false, false]))]]
-- 44: yX11_mayGo
set_option maxRecDepth 100000 in
noncomputable def zcd_44 : List (List zOp) := [[(((.iload_n 1), 0), ([0], [])),
  (((.aload_n 0), 1), ([0], [])),
  (((.getfield 10), 2), ([5, 11, 0, 3], [])),
  (((.invokeinterface 77 1), 5), ([8, 2], [])),
  (((.invokestatic 123), 10), ([9, 130, 2, 99, 1], [])),
  (((.aload_n 0), 13), ([0], [])),
  (((.aload_n 0), 14), ([0], [])),
  (((.getfield 10), 15), ([5, 11, 0, 3], [])),
  (((.iload_n 1), 18), ([0], [])),
  (((.invokeinterface 127 2), 19), ([8, 3], [])),
  (((.checkcast 88), 24), ([7, 0], [])),
  (((.invokevirtual 138), 27), ([9, 45, 2, 11, 0], [])),
  (((.ireturn), 30), ([10], []))]]
-- 45: yX11_reasonNotToGo
set_option maxRecDepth 100000 in
noncomputable def zcd_45 : List (List zOp) := [[(((.aload_n 1), 0), ([0], [])),
  (((.getfield 135), 1), ([5, 0, 10, 0], [])),
  (((.ifCond .le 5), 4), ([3, 5], [])),
  (((.iconst 0), 7), ([0], [])),
  (((.ireturn), 8), ([10], [])),
  (((.aload_n 0), 9), ([0], [true, true])),
  (((.aload_n 1), 10), ([0], [])),
  (((.aconst_null), 11), ([0], [])),
  (((.invokevirtual 141), 12), ([9, 46, 3, 11, 0], [])),
  (((.ifCond .ne 6), 15), ([3, 12], [])),
  (((.bipush 6), 18), ([0], [])),
  (((.ireturn), 20), ([10], [])),
  (((.aload_n 0), 21), ([0], [true, true])),
  (((.getfield 33), 22), ([5, 11, 6, 3], [])),
  (((.aload_n 1), 25), ([0], [])),
  (((.getfield 145), 26), ([5, 0, 1, 0], []))], [(((.aaload), 29), ([6], [])),
  (((.aload_n 1), 30), ([0], [])),
  (((.invokevirtual 148), 31), ([9, 25, 2, 8, 0], [])),
  (((.ifCond .eq 11), 34), ([3, 24], [])),
  (((.aload_n 0), 37), ([0], [])),
  (((.aload_n 1), 38), ([0], [])),
  (((.invokevirtual 152), 39), ([9, 47, 2, 11, 0], [])),
  (((.ifCond .ne 6), 42), ([3, 26], [])),
  (((.bipush 7), 45), ([0], [false, false])),
  (((.ireturn), 47), ([10], [])),
  (((.iconst 0), 48), ([0], [false, false])),
  (((.ireturn), 49), ([10], []))]]
-- 46: yX11_fitsToLive
set_option maxRecDepth 100000 in
noncomputable def zcd_46 : List (List zOp) := [[(((.iconst 0), 0), ([0], [])),
  (((.istore_n 3), 1), ([0], [])),
  (((.iload_n 3), 2), ([0], [true, true, true, true, false])),
  (((.aload_n 0), 3), ([0], [])),
  (((.getfield 10), 4), ([5, 11, 0, 3], [])),
  (((.invokeinterface 77 1), 7), ([8, 2], [])),
  (((.if_icmp .ge 55), 12), ([3, 30], [])),
  (((.aload_n 0), 15), ([0], [])),
  (((.getfield 10), 16), ([5, 11, 0, 3], [])),
  (((.iload_n 3), 19), ([0], [])),
  (((.invokeinterface 127 2), 20), ([8, 3], [])),
  (((.checkcast 88), 25), ([7, 0], [])),
  (((.astore 4), 28), ([0], [])),
  (((.aload 4), 30), ([0], [])),
  (((.getfield 135), 32), ([5, 0, 10, 0], [])),
  (((.ifCond .le 26), 35), ([3, 28], []))], [(((.aload 4), 38), ([0], [])),
  (((.aload_n 1), 40), ([0], [])),
  (((.if_acmp .eq 20), 41), ([3, 28], [])),
  (((.aload 4), 44), ([0], [])),
  (((.aload_n 2), 46), ([0], [])),
  (((.if_acmp .eq 14), 47), ([3, 28], [])),
  (((.aload_n 1), 50), ([0], [])),
  (((.aload 4), 51), ([0], [])),
  (((.invokevirtual 131), 53), ([9, 1, 2, 0, 0], [])),
  (((.ifCond .eq 5), 56), ([3, 28], [])),
  (((.iconst 0), 59), ([0], [])),
  (((.ireturn), 60), ([10], [])),
  (((.iinc 3 1), 61), ([0], [true, true, true, true, false])),
  (((.goto (-62)), 64), ([3, 2], [])),
  (((.iconst 1), 67), ([0], [false, false, false, false, false])),
  (((.ireturn), 68), ([10], []))]]
-- 47: yX11_hasWhatItNeeds
set_option maxRecDepth 100000 in
noncomputable def zcd_47 : List (List zOp) := [[(((.aload_n 1), 0), ([0], [])),
  (((.getfield 95), 1), ([5, 0, 4, 0], [])),
  (((.ifCond .ne 5), 4), ([3, 5], [])),
  (((.iconst 1), 7), ([0], [])),
  (((.ireturn), 8), ([10], [])),
  (((.iconst 0), 9), ([0], [true, true, false, false])),
  (((.istore_n 2), 10), ([0], [])),
  (((.iload_n 2), 11), ([0], [true, true, true, false])),
  (((.aload_n 0), 12), ([0], [])),
  (((.getfield 10), 13), ([5, 11, 0, 3], [])),
  (((.invokeinterface 77 1), 16), ([8, 2], [])),
  (((.if_icmp .ge 43), 21), ([3, 30], [])),
  (((.aload_n 0), 24), ([0], [])),
  (((.getfield 10), 25), ([5, 11, 0, 3], [])),
  (((.iload_n 2), 28), ([0], [])),
  (((.invokeinterface 127 2), 29), ([8, 3], []))], [(((.checkcast 88), 34), ([7, 0], [])),
  (((.astore_n 3), 37), ([0], [])),
  (((.aload_n 3), 38), ([0], [])),
  (((.getfield 135), 39), ([5, 0, 10, 0], [])),
  (((.ifCond .le 16), 42), ([3, 28], [])),
  (((.aload_n 3), 45), ([0], [])),
  (((.getfield 145), 46), ([5, 0, 1, 0], [])),
  (((.aload_n 1), 49), ([0], [])),
  (((.getfield 98), 50), ([5, 0, 5, 0], [])),
  (((.if_icmp .ne 5), 53), ([3, 28], [])),
  (((.iconst 1), 56), ([0], [])),
  (((.ireturn), 57), ([10], [])),
  (((.iinc 2 1), 58), ([0], [true, true, true, false])),
  (((.goto (-50)), 61), ([3, 7], [])),
  (((.iconst 0), 64), ([0], [false, false, false, false])),
  (((.ireturn), 65), ([10], []))]]
-- 48: yX11_forbidden
set_option maxRecDepth 100000 in
noncomputable def zcd_48 : List (List zOp) := [[(((.iconst 0), 0), ([0], [])),
  (((.istore_n 1), 1), ([0], [])),
  (((.iconst 0), 2), ([0], [])),
  (((.istore_n 2), 3), ([0], [])),
  (((.iload_n 2), 4), ([0], [true, true, true, false, false, false])),
  (((.aload_n 0), 5), ([0], [])),
  (((.getfield 10), 6), ([5, 11, 0, 3], [])),
  (((.invokeinterface 77 1), 9), ([8, 2], [])),
  (((.if_icmp .ge 91), 14), ([3, 45], [])),
  (((.iload_n 2), 17), ([0], [])),
  (((.iconst 1), 18), ([0], [])),
  (((.iadd), 19), ([1], [])),
  (((.istore_n 3), 20), ([0], [])),
  (((.iload_n 3), 21), ([0], [true, true, true, true, false, false])),
  (((.aload_n 0), 22), ([0], [])),
  (((.getfield 10), 23), ([5, 11, 0, 3], []))], [(((.invokeinterface 77 1), 26), ([8, 2], [])),
  (((.if_icmp .ge 68), 31), ([3, 43], [])),
  (((.aload_n 0), 34), ([0], [])),
  (((.getfield 10), 35), ([5, 11, 0, 3], [])),
  (((.iload_n 2), 38), ([0], [])),
  (((.invokeinterface 127 2), 39), ([8, 3], [])),
  (((.checkcast 88), 44), ([7, 0], [])),
  (((.astore 4), 47), ([0], [])),
  (((.aload_n 0), 49), ([0], [])),
  (((.getfield 10), 50), ([5, 11, 0, 3], [])),
  (((.iload_n 3), 53), ([0], [])),
  (((.invokeinterface 127 2), 54), ([8, 3], [])),
  (((.checkcast 88), 59), ([7, 0], [])),
  (((.astore 5), 62), ([0], [])),
  (((.aload 4), 64), ([0], [])),
  (((.getfield 135), 66), ([5, 0, 10, 0], []))], [(((.ifCond .le 24), 69), ([3, 41], [])),
  (((.aload 5), 72), ([0], [])),
  (((.getfield 135), 74), ([5, 0, 10, 0], [])),
  (((.ifCond .le 16), 77), ([3, 41], [])),
  (((.aload 4), 80), ([0], [])),
  (((.aload 5), 82), ([0], [])),
  (((.invokevirtual 131), 84), ([9, 1, 2, 0, 0], [])),
  (((.ifCond .eq 6), 87), ([3, 41], [])),
  (((.iinc 1 1), 90), ([0], [])),
  (((.iinc 3 1), 93), ([0], [true, true, true, true, false, false])),
  (((.goto (-75)), 96), ([3, 13], [])),
  (((.iinc 2 1), 99), ([0], [true, true, true, false, false, false])),
  (((.goto (-98)), 102), ([3, 4], [])),
  (((.iload_n 1), 105), ([0], [false, true, false, false, false, false])),
  (((.ireturn), 106), ([10], []))]]
-- 49: yX11_program
set_option maxRecDepth 100000 in
noncomputable def zcd_49 : List (List zOp) := [[(((.aload_n 0), 0), ([0], [])),
  (((.getfield 16), 1), ([5, 11, 1, 3], [])),
  (((.invokeinterface 77 1), 4), ([8, 2], [])),
  (((.bipush 6), 9), ([0], [])),
  (((.if_icmp .lt 13), 11), ([3, 10], [])),
  (((.new 83), 14), ([11, 1], [])),
  (((.dup), 17), ([12], [])),
  (((.ldc 155), 18), ([12], [])),
  (((.invokespecial 87), 20), ([12], [])),
  (((.athrow), 23), ([12], [])),
  (((.aload_n 0), 24), ([0], [true])),
  (((.getfield 16), 25), ([5, 11, 1, 3], [])),
  (((.new 157), 28), ([7, 4], [])),
  (((.dup), 31), ([0], [])),
  (((.invokespecial 159), 32), ([9, 7, 1, 4, 4], [])),
  (((.invokeinterface 114 2), 35), ([8, 4], []))], [(((.pop), 40), ([0], [])),
  (((.aload_n 0), 41), ([0], [])),
  (((.getfield 16), 42), ([5, 11, 1, 3], [])),
  (((.invokeinterface 77 1), 45), ([8, 2], [])),
  (((.iconst 1), 50), ([0], [])),
  (((.isub), 51), ([1], [])),
  (((.ireturn), 52), ([10], []))]]
-- 50: yX11_step
set_option maxRecDepth 100000 in
noncomputable def zcd_50 : List (List zOp) := [[(((.iload_n 1), 0), ([0], [])),
  (((.aload_n 0), 1), ([0], [])),
  (((.getfield 16), 2), ([5, 11, 1, 3], [])),
  (((.invokeinterface 77 1), 5), ([8, 2], [])),
  (((.invokestatic 123), 10), ([9, 130, 2, 99, 1], [])),
  (((.iload_n 2), 13), ([0], [])),
  (((.iload_n 3), 14), ([0], [])),
  (((.iload 4), 15), ([0], [])),
  (((.invokestatic 160), 17), ([9, 51, 3, 99, 1], [])),
  (((.aload_n 0), 20), ([0], [])),
  (((.getfield 16), 21), ([5, 11, 1, 3], [])),
  (((.iload_n 1), 24), ([0], [])),
  (((.invokeinterface 127 2), 25), ([8, 3], [])),
  (((.checkcast 157), 30), ([7, 4], [])),
  (((.astore 5), 33), ([0], [])),
  (((.aload 5), 35), ([0], []))], [(((.getfield 163), 37), ([5, 4, 3, 0], [])),
  (((.bipush 10), 40), ([0], [])),
  (((.if_icmp .ge 11), 42), ([3, 22], [])),
  (((.aload 5), 45), ([0], [])),
  (((.getfield 166), 47), ([5, 4, 4, 1], [])),
  (((.ifCond .eq 13), 50), ([3, 27], [])),
  (((.new 83), 53), ([11, 1], [false, false, false, false, false, false])),
  (((.dup), 56), ([12], [])),
  (((.ldc 169), 57), ([12], [])),
  (((.invokespecial 87), 59), ([12], [])),
  (((.athrow), 62), ([12], [])),
  (((.aload 5), 63), ([0], [false, false, true, true, true, true])),
  (((.iload_n 2), 65), ([0], [])),
  (((.iload_n 3), 66), ([0], [])),
  (((.iload 4), 67), ([0], [])),
  (((.invokevirtual 171), 69), ([9, 8, 4, 4, 0], []))], [(((.aload 5), 72), ([0], [])),
  (((.getfield 163), 74), ([5, 4, 3, 0], [])),
  (((.ireturn), 77), ([10], []))]]
-- 51: yX11_checkStep
set_option maxRecDepth 100000 in
noncomputable def zcd_51 : List (List zOp) := [[(((.iload_n 0), 0), ([0], [])),
  (((.tableswitch 91 0 6 #[43, 68, 59, 79, 59, 88, 59]), 1), ([4, 27, 2, 16, 11, 21, 11, 26, 11], [])),
  (((.iload_n 1), 44), ([0], [false, true, true])),
  (((.iconst 0), 45), ([0], [])),
  (((.iconst 2), 46), ([0], [])),
  (((.invokestatic 59), 47), ([9, 131, 3, 99, 1], [])),
  (((.iload_n 2), 50), ([0], [])),
  (((.iconst 1), 51), ([0], [])),
  (((.bipush 100), 52), ([0], [])),
  (((.invokestatic 59), 54), ([9, 131, 3, 99, 1], [])),
  (((.goto 45), 57), ([3, 32], [])),
  (((.iload_n 1), 60), ([0], [false, true, false])),
  (((.iconst 0), 61), ([0], [])),
  (((.iconst 2), 62), ([0], [])),
  (((.invokestatic 59), 63), ([9, 131, 3, 99, 1], [])),
  (((.goto 36), 66), ([3, 32], []))], [(((.iload_n 1), 69), ([0], [false, true, false])),
  (((.iconst 0), 70), ([0], [])),
  (((.sipush 1000), 71), ([0], [])),
  (((.invokestatic 59), 74), ([9, 131, 3, 99, 1], [])),
  (((.goto 25), 77), ([3, 32], [])),
  (((.iload_n 1), 80), ([0], [false, true, false])),
  (((.iconst 0), 81), ([0], [])),
  (((.iconst 5), 82), ([0], [])),
  (((.invokestatic 59), 83), ([9, 131, 3, 99, 1], [])),
  (((.goto 16), 86), ([3, 32], [])),
  (((.goto 13), 89), ([3, 32], [false, false, false])),
  (((.new 70), 92), ([11, 0], [false, false, false])),
  (((.dup), 95), ([12], [])),
  (((.ldc 174), 96), ([12], [])),
  (((.invokespecial 74), 98), ([12], [])),
  (((.athrow), 101), ([12], []))], [(((.return_), 102), ([10], [false, false, false]))]]
-- 52: yX11_release
set_option maxRecDepth 100000 in
noncomputable def zcd_52 : List (List zOp) := [[(((.iload_n 1), 0), ([0], [])),
  (((.aload_n 0), 1), ([0], [])),
  (((.getfield 10), 2), ([5, 11, 0, 3], [])),
  (((.invokeinterface 77 1), 5), ([8, 2], [])),
  (((.invokestatic 123), 10), ([9, 130, 2, 99, 1], [])),
  (((.iload_n 2), 13), ([0], [])),
  (((.aload_n 0), 14), ([0], [])),
  (((.getfield 16), 15), ([5, 11, 1, 3], [])),
  (((.invokeinterface 77 1), 18), ([8, 2], [])),
  (((.invokestatic 123), 23), ([9, 130, 2, 99, 1], [])),
  (((.aload_n 0), 26), ([0], [])),
  (((.getfield 10), 27), ([5, 11, 0, 3], [])),
  (((.iload_n 1), 30), ([0], [])),
  (((.invokeinterface 127 2), 31), ([8, 3], [])),
  (((.checkcast 88), 36), ([7, 0], [])),
  (((.astore_n 3), 39), ([0], []))], [(((.aload_n 0), 40), ([0], [])),
  (((.getfield 16), 41), ([5, 11, 1, 3], [])),
  (((.iload_n 2), 44), ([0], [])),
  (((.invokeinterface 127 2), 45), ([8, 3], [])),
  (((.checkcast 157), 50), ([7, 4], [])),
  (((.astore 4), 53), ([0], [])),
  (((.aload_n 0), 55), ([0], [])),
  (((.getfield 19), 56), ([5, 11, 2, 3], [])),
  (((.invokeinterface 77 1), 59), ([8, 2], [])),
  (((.bipush 20), 64), ([0], [])),
  (((.if_icmp .ge 19), 66), ([3, 34], [])),
  (((.aload 4), 69), ([0], [])),
  (((.getfield 163), 71), ([5, 4, 3, 0], [])),
  (((.ifCond .eq 11), 74), ([3, 34], [])),
  (((.aload_n 0), 77), ([0], [])),
  (((.aload_n 3), 78), ([0], []))], [(((.invokevirtual 176), 79), ([9, 53, 2, 11, 0], [])),
  (((.ifnull 13), 82), ([3, 39], [])),
  (((.new 83), 85), ([11, 1], [false, false, false, false, false])),
  (((.dup), 88), ([12], [])),
  (((.ldc 180), 89), ([12], [])),
  (((.invokespecial 87), 91), ([12], [])),
  (((.athrow), 94), ([12], [])),
  (((.aload 4), 95), ([0], [true, false, false, true, true])),
  (((.iconst 1), 97), ([0], [])),
  (((.putfield 166), 98), ([5, 4, 4, 1], [])),
  (((.aload_n 0), 101), ([0], [])),
  (((.getfield 19), 102), ([5, 11, 2, 3], [])),
  (((.new 182), 105), ([7, 5], [])),
  (((.dup), 108), ([0], [])),
  (((.aload_n 3), 109), ([0], [])),
  (((.aload 4), 110), ([0], []))], [(((.aload_n 0), 112), ([0], [])),
  (((.getfield 184), 113), ([5, 11, 11, 0], [])),
  (((.invokespecial 187), 116), ([9, 9, 4, 5, 2], [])),
  (((.invokeinterface 114 2), 119), ([8, 4], [])),
  (((.pop), 124), ([0], [])),
  (((.aload_n 0), 125), ([0], [])),
  (((.getfield 19), 126), ([5, 11, 2, 3], [])),
  (((.invokeinterface 77 1), 129), ([8, 2], [])),
  (((.iconst 1), 134), ([0], [])),
  (((.isub), 135), ([1], [])),
  (((.ireturn), 136), ([10], []))]]
-- 53: yX11_releaseUnderWay
set_option maxRecDepth 100000 in
noncomputable def zcd_53 : List (List zOp) := [[(((.iconst 0), 0), ([0], [])),
  (((.istore_n 2), 1), ([0], [])),
  (((.iload_n 2), 2), ([0], [true, true, true, false])),
  (((.aload_n 0), 3), ([0], [])),
  (((.getfield 19), 4), ([5, 11, 2, 3], [])),
  (((.invokeinterface 77 1), 7), ([8, 2], [])),
  (((.if_icmp .ge 40), 12), ([3, 24], [])),
  (((.aload_n 0), 15), ([0], [])),
  (((.getfield 19), 16), ([5, 11, 2, 3], [])),
  (((.iload_n 2), 19), ([0], [])),
  (((.invokeinterface 127 2), 20), ([8, 3], [])),
  (((.checkcast 182), 25), ([7, 5], [])),
  (((.astore_n 3), 28), ([0], [])),
  (((.aload_n 3), 29), ([0], [])),
  (((.getfield 190), 30), ([5, 5, 0, 3], [])),
  (((.aload_n 1), 33), ([0], []))], [(((.if_acmp .ne 12), 34), ([3, 22], [])),
  (((.aload_n 3), 37), ([0], [])),
  (((.invokevirtual 194), 38), ([9, 10, 1, 5, 0], [])),
  (((.ifCond .ne 5), 41), ([3, 22], [])),
  (((.aload_n 3), 44), ([0], [])),
  (((.areturn), 45), ([10], [])),
  (((.iinc 2 1), 46), ([0], [true, true, true, false])),
  (((.goto (-47)), 49), ([3, 2], [])),
  (((.aconst_null), 52), ([0], [false, false, false, false])),
  (((.areturn), 53), ([10], []))]]
-- 54: yL_law
set_option maxRecDepth 100000 in
noncomputable def zcd_54 : List (List zOp) := []
-- 55: yX11_stop
set_option maxRecDepth 100000 in
noncomputable def zcd_55 : List (List zOp) := [[(((.iload_n 1), 0), ([0], [])),
  (((.aload_n 0), 1), ([0], [])),
  (((.getfield 19), 2), ([5, 11, 2, 3], [])),
  (((.invokeinterface 77 1), 5), ([8, 2], [])),
  (((.invokestatic 123), 10), ([9, 130, 2, 99, 1], [])),
  (((.aload_n 0), 13), ([0], [])),
  (((.getfield 19), 14), ([5, 11, 2, 3], [])),
  (((.iload_n 1), 17), ([0], [])),
  (((.invokeinterface 127 2), 18), ([8, 3], [])),
  (((.checkcast 182), 23), ([7, 5], [])),
  (((.astore_n 2), 26), ([0], [])),
  (((.aload_n 2), 27), ([0], [])),
  (((.invokevirtual 194), 28), ([9, 10, 1, 5, 0], [])),
  (((.ifCond .eq 13), 31), ([3, 19], [])),
  (((.new 83), 34), ([11, 1], [])),
  (((.dup), 37), ([12], []))], [(((.ldc 212), 38), ([12], [])),
  (((.invokespecial 87), 40), ([12], [])),
  (((.athrow), 43), ([12], [])),
  (((.aload_n 0), 44), ([0], [true, false, true, false])),
  (((.aload_n 2), 45), ([0], [])),
  (((.invokevirtual 214), 46), ([9, 56, 2, 11, 0], [])),
  (((.istore_n 3), 49), ([0], [])),
  (((.aload_n 0), 50), ([0], [])),
  (((.aload_n 0), 51), ([0], [])),
  (((.getfield 33), 52), ([5, 11, 6, 3], [])),
  (((.aload_n 2), 55), ([0], [])),
  (((.getfield 190), 56), ([5, 5, 0, 3], [])),
  (((.getfield 145), 59), ([5, 0, 1, 0], [])),
  (((.aaload), 62), ([6], [])),
  (((.invokevirtual 218), 63), ([9, 60, 2, 11, 0], [])),
  (((.iload_n 3), 66), ([0], []))], [(((.ireturn), 67), ([10], []))]]
-- 56: yX11_bringToStop
set_option maxRecDepth 100000 in
noncomputable def zcd_56 : List (List zOp) := [[(((.aload_n 0), 0), ([0], [])),
  (((.aload_n 1), 1), ([0], [])),
  (((.getfield 190), 2), ([5, 5, 0, 3], [])),
  (((.invokevirtual 222), 5), ([9, 58, 2, 11, 0], [])),
  (((.iconst 0), 8), ([0], [])),
  (((.istore_n 2), 9), ([0], [])),
  (((.iconst 0), 10), ([0], [])),
  (((.istore_n 3), 11), ([0], [])),
  (((.iload_n 3), 12), ([0], [true, true, true, true])),
  (((.iconst 3), 13), ([0], [])),
  (((.if_icmp .ge 30), 14), ([3, 24], [])),
  (((.aload_n 1), 17), ([0], [])),
  (((.getfield 226), 18), ([5, 5, 9, 3], [])),
  (((.iload_n 3), 21), ([0], [])),
  (((.baload), 22), ([6], [])),
  (((.ifCond .eq 15), 23), ([3, 22], []))], [(((.aload_n 0), 26), ([0], [])),
  (((.aload_n 1), 27), ([0], [])),
  (((.iload_n 3), 28), ([0], [])),
  (((.invokevirtual 230), 29), ([9, 57, 3, 11, 0], [])),
  (((.ifCond .ne 6), 32), ([3, 22], [])),
  (((.iinc 2 1), 35), ([0], [])),
  (((.iinc 3 1), 38), ([0], [true, true, true, true])),
  (((.goto (-29)), 41), ([3, 8], [])),
  (((.aload_n 0), 44), ([0], [true, true, true, false])),
  (((.aload_n 1), 45), ([0], [])),
  (((.iconst 3), 46), ([0], [])),
  (((.invokevirtual 234), 47), ([9, 59, 3, 11, 0], [])),
  (((.iload_n 2), 50), ([0], [])),
  (((.ireturn), 51), ([10], []))]]
-- 57: yX11_goesBack
set_option maxRecDepth 100000 in
noncomputable def zcd_57 : List (List zOp) := [[(((.aload_n 1), 0), ([0], [])),
  (((.getfield 190), 1), ([5, 5, 0, 3], [])),
  (((.astore_n 3), 4), ([0], [])),
  (((.aload_n 0), 5), ([0], [])),
  (((.getfield 33), 6), ([5, 11, 6, 3], [])),
  (((.aload_n 3), 9), ([0], [])),
  (((.getfield 145), 10), ([5, 0, 1, 0], [])),
  (((.aaload), 13), ([6], [])),
  (((.astore 4), 14), ([0], [])),
  (((.aload 4), 16), ([0], [])),
  (((.getfield 238), 18), ([5, 8, 0, 3], [])),
  (((.iload_n 2), 21), ([0], [])),
  (((.aaload), 22), ([6], [])),
  (((.astore 5), 23), ([0], [])),
  (((.aload 5), 25), ([0], [])),
  (((.getfield 242), 27), ([5, 9, 0, 3], []))], [(((.aload_n 3), 30), ([0], [])),
  (((.if_acmp .eq 5), 31), ([3, 20], [])),
  (((.iconst 1), 34), ([0], [])),
  (((.ireturn), 35), ([10], [])),
  (((.aload_n 1), 36), ([0], [true, true, true, true, true, true, false, false])),
  (((.getfield 247), 37), ([5, 5, 10, 3], [])),
  (((.iload_n 2), 40), ([0], [])),
  (((.aaload), 41), ([6], [])),
  (((.astore 6), 42), ([0], [])),
  (((.aload_n 3), 44), ([0], [])),
  (((.getfield 135), 45), ([5, 0, 10, 0], [])),
  (((.iconst 1), 48), ([0], [])),
  (((.if_icmp .ne 7), 49), ([3, 31], [])),
  (((.aload_n 3), 52), ([0], [])),
  (((.goto 4), 53), ([3, 32], [])),
  (((.aconst_null), 56), ([0], [true, false, false, false, true, true, true, false]))], [(((.astore 7), 57), ([0], [true, false, false, false, true, true, true, false])),
  (((.aload 6), 59), ([0], [])),
  (((.ifnull 24), 61), ([3, 44], [])),
  (((.aload_n 0), 64), ([0], [])),
  (((.aload 6), 65), ([0], [])),
  (((.aload 7), 67), ([0], [])),
  (((.invokevirtual 141), 69), ([9, 46, 3, 11, 0], [])),
  (((.ifCond .eq 13), 72), ([3, 44], [])),
  (((.aload 4), 75), ([0], [])),
  (((.aload 6), 77), ([0], [])),
  (((.invokevirtual 148), 79), ([9, 25, 2, 8, 0], [])),
  (((.ifCond .ne 5), 82), ([3, 46], [])),
  (((.iconst 0), 85), ([0], [false, false, false, false, false, false, false, false])),
  (((.ireturn), 86), ([10], [])),
  (((.aload 5), 87), ([0], [false, false, false, false, false, true, true, false])),
  (((.aload 6), 89), ([0], []))], [(((.aload 5), 91), ([0], [])),
  (((.getfield 251), 93), ([5, 9, 1, 3], [])),
  (((.aload 5), 96), ([0], [])),
  (((.getfield 254), 98), ([5, 9, 2, 0], [])),
  (((.invokevirtual 257), 101), ([9, 29, 4, 9, 0], [])),
  (((.iconst 1), 104), ([0], [])),
  (((.ireturn), 105), ([10], []))]]
-- 58: yX11_dropCandidates
set_option maxRecDepth 100000 in
noncomputable def zcd_58 : List (List zOp) := [[(((.aload_n 0), 0), ([0], [])),
  (((.getfield 33), 1), ([5, 11, 6, 3], [])),
  (((.aload_n 1), 4), ([0], [])),
  (((.getfield 145), 5), ([5, 0, 1, 0], [])),
  (((.aaload), 8), ([6], [])),
  (((.astore_n 2), 9), ([0], [])),
  (((.iconst 0), 10), ([0], [])),
  (((.istore_n 3), 11), ([0], [])),
  (((.iload_n 3), 12), ([0], [false, true, true, true, false])),
  (((.iconst 3), 13), ([0], [])),
  (((.if_icmp .ge 38), 14), ([3, 28], [])),
  (((.aload_n 2), 17), ([0], [])),
  (((.getfield 238), 18), ([5, 8, 0, 3], [])),
  (((.iload_n 3), 21), ([0], [])),
  (((.aaload), 22), ([6], [])),
  (((.astore 4), 23), ([0], []))], [(((.aload 4), 25), ([0], [])),
  (((.getfield 251), 27), ([5, 9, 1, 3], [])),
  (((.aload_n 1), 30), ([0], [])),
  (((.if_acmp .ne 15), 31), ([3, 26], [])),
  (((.aload 4), 34), ([0], [])),
  (((.aload 4), 36), ([0], [])),
  (((.getfield 242), 38), ([5, 9, 0, 3], [])),
  (((.aconst_null), 41), ([0], [])),
  (((.iconst 0), 42), ([0], [])),
  (((.invokevirtual 257), 43), ([9, 29, 4, 9, 0], [])),
  (((.iinc 3 1), 46), ([0], [false, true, true, true, false])),
  (((.goto (-37)), 49), ([3, 8], [])),
  (((.return_), 52), ([10], [false, false, false, false, false]))]]
-- 59: yX11_bringToEnd
set_option maxRecDepth 100000 in
noncomputable def zcd_59 : List (List zOp) := [[(((.aload_n 1), 0), ([0], [])),
  (((.iload_n 2), 1), ([0], [])),
  (((.putfield 261), 2), ([5, 5, 2, 0], [])),
  (((.aload_n 1), 5), ([0], [])),
  (((.getfield 190), 6), ([5, 5, 0, 3], [])),
  (((.getfield 107), 9), ([5, 0, 8, 1], [])),
  (((.ifCond .ne 4), 12), ([3, 8], [])),
  (((.return_), 15), ([10], [])),
  (((.iconst 0), 16), ([0], [true, true, false, false, false])),
  (((.istore_n 3), 17), ([0], [])),
  (((.iload_n 3), 18), ([0], [true, true, false, true, false])),
  (((.aload_n 0), 19), ([0], [])),
  (((.getfield 19), 20), ([5, 11, 2, 3], [])),
  (((.invokeinterface 77 1), 23), ([8, 2], [])),
  (((.if_icmp .ge 67), 28), ([3, 42], [])),
  (((.aload_n 0), 31), ([0], []))], [(((.getfield 19), 32), ([5, 11, 2, 3], [])),
  (((.iload_n 3), 35), ([0], [])),
  (((.invokeinterface 127 2), 36), ([8, 3], [])),
  (((.checkcast 182), 41), ([7, 5], [])),
  (((.astore 4), 44), ([0], [])),
  (((.aload 4), 46), ([0], [])),
  (((.getfield 261), 48), ([5, 5, 2, 0], [])),
  (((.iconst 1), 51), ([0], [])),
  (((.if_icmp .ne 37), 52), ([3, 40], [])),
  (((.aload 4), 55), ([0], [])),
  (((.getfield 190), 57), ([5, 5, 0, 3], [])),
  (((.getfield 145), 60), ([5, 0, 1, 0], [])),
  (((.aload_n 1), 63), ([0], [])),
  (((.getfield 190), 64), ([5, 5, 0, 3], [])),
  (((.getfield 145), 67), ([5, 0, 1, 0], [])),
  (((.if_icmp .ne 19), 70), ([3, 40], []))], [(((.aload 4), 73), ([0], [])),
  (((.iconst 0), 75), ([0], [])),
  (((.putfield 261), 76), ([5, 5, 2, 0], [])),
  (((.aload 4), 79), ([0], [])),
  (((.iconst 0), 81), ([0], [])),
  (((.aload_n 0), 82), ([0], [])),
  (((.getfield 184), 83), ([5, 11, 11, 0], [])),
  (((.invokevirtual 264), 86), ([9, 11, 3, 5, 0], [])),
  (((.iinc 3 1), 89), ([0], [true, true, false, true, false])),
  (((.goto (-74)), 92), ([3, 10], [])),
  (((.return_), 95), ([10], [false, false, false, false, false]))]]
-- 60: yX11_countEffects
set_option maxRecDepth 100000 in
noncomputable def zcd_60 : List (List zOp) := [[(((.iconst 0), 0), ([0], [])),
  (((.istore_n 2), 1), ([0], [])),
  (((.iload_n 2), 2), ([0], [true, true, true, false])),
  (((.iconst 3), 3), ([0], [])),
  (((.if_icmp .ge 38), 4), ([3, 24], [])),
  (((.aload_n 1), 7), ([0], [])),
  (((.getfield 238), 8), ([5, 8, 0, 3], [])),
  (((.iload_n 2), 11), ([0], [])),
  (((.aaload), 12), ([6], [])),
  (((.astore_n 3), 13), ([0], [])),
  (((.aload_n 3), 14), ([0], [])),
  (((.getfield 267), 15), ([5, 9, 3, 1], [])),
  (((.ifCond .eq 18), 18), ([3, 22], [])),
  (((.aload_n 0), 21), ([0], [])),
  (((.dup), 22), ([0], [])),
  (((.getfield 270), 23), ([5, 11, 14, 0], []))], [(((.iconst 1), 26), ([0], [])),
  (((.iadd), 27), ([1], [])),
  (((.putfield 270), 28), ([5, 11, 14, 0], [])),
  (((.aload_n 3), 31), ([0], [])),
  (((.iconst 0), 32), ([0], [])),
  (((.putfield 267), 33), ([5, 9, 3, 1], [])),
  (((.iinc 2 1), 36), ([0], [true, true, true, false])),
  (((.goto (-37)), 39), ([3, 2], [])),
  (((.return_), 42), ([10], [false, false, false, false]))]]
-- 61: yX11_state
set_option maxRecDepth 100000 in
noncomputable def zcd_61 : List (List zOp) := [[(((.iload_n 1), 0), ([0], [])),
  (((.aload_n 0), 1), ([0], [])),
  (((.getfield 19), 2), ([5, 11, 2, 3], [])),
  (((.invokeinterface 77 1), 5), ([8, 2], [])),
  (((.invokestatic 123), 10), ([9, 130, 2, 99, 1], [])),
  (((.aload_n 0), 13), ([0], [])),
  (((.getfield 19), 14), ([5, 11, 2, 3], [])),
  (((.iload_n 1), 17), ([0], [])),
  (((.invokeinterface 127 2), 18), ([8, 3], [])),
  (((.checkcast 182), 23), ([7, 5], [])),
  (((.getfield 261), 26), ([5, 5, 2, 0], [])),
  (((.ireturn), 29), ([10], []))]]
-- 62: yX11_at
set_option maxRecDepth 100000 in
noncomputable def zcd_62 : List (List zOp) := [[(((.iload_n 1), 0), ([0], [])),
  (((.aload_n 0), 1), ([0], [])),
  (((.getfield 19), 2), ([5, 11, 2, 3], [])),
  (((.invokeinterface 77 1), 5), ([8, 2], [])),
  (((.invokestatic 123), 10), ([9, 130, 2, 99, 1], [])),
  (((.aload_n 0), 13), ([0], [])),
  (((.getfield 19), 14), ([5, 11, 2, 3], [])),
  (((.iload_n 1), 17), ([0], [])),
  (((.invokeinterface 127 2), 18), ([8, 3], [])),
  (((.checkcast 182), 23), ([7, 5], [])),
  (((.getfield 273), 26), ([5, 5, 3, 0], [])),
  (((.ireturn), 29), ([10], []))]]
-- 63: yX11_why
set_option maxRecDepth 100000 in
noncomputable def zcd_63 : List (List zOp) := [[(((.iload_n 1), 0), ([0], [])),
  (((.aload_n 0), 1), ([0], [])),
  (((.getfield 19), 2), ([5, 11, 2, 3], [])),
  (((.invokeinterface 77 1), 5), ([8, 2], [])),
  (((.invokestatic 123), 10), ([9, 130, 2, 99, 1], [])),
  (((.aload_n 0), 13), ([0], [])),
  (((.getfield 19), 14), ([5, 11, 2, 3], [])),
  (((.iload_n 1), 17), ([0], [])),
  (((.invokeinterface 127 2), 18), ([8, 3], [])),
  (((.checkcast 182), 23), ([7, 5], [])),
  (((.astore_n 2), 26), ([0], [])),
  (((.aload_n 2), 27), ([0], [])),
  (((.invokevirtual 194), 28), ([9, 10, 1, 5, 0], [])),
  (((.ifCond .eq 6), 31), ([3, 16], [])),
  (((.bipush 14), 34), ([0], [])),
  (((.ireturn), 36), ([10], []))], [(((.aload_n 0), 37), ([0], [true, false, true])),
  (((.getfield 276), 38), ([5, 11, 13, 1], [])),
  (((.ifCond .eq 6), 41), ([3, 21], [])),
  (((.bipush 13), 44), ([0], [])),
  (((.ireturn), 46), ([10], [])),
  (((.aload_n 2), 47), ([0], [true, false, true])),
  (((.getfield 261), 48), ([5, 5, 2, 0], [])),
  (((.iconst 1), 51), ([0], [])),
  (((.if_icmp .ne 7), 52), ([3, 27], [])),
  (((.iconst 1), 55), ([0], [])),
  (((.goto 8), 56), ([3, 30], [])),
  (((.aload_n 0), 59), ([0], [true, false, true])),
  (((.aload_n 2), 60), ([0], [])),
  (((.invokevirtual 279), 61), ([9, 64, 2, 11, 0], [])),
  (((.ireturn), 64), ([10], [false, false, false]))]]
-- 64: yX11_reasonAtStep
set_option maxRecDepth 100000 in
noncomputable def zcd_64 : List (List zOp) := [[(((.aload_n 1), 0), ([0], [])),
  (((.invokevirtual 282), 1), ([9, 13, 1, 5, 0], [])),
  (((.istore_n 2), 4), ([0], [])),
  (((.aload_n 1), 5), ([0], [])),
  (((.invokevirtual 285), 6), ([9, 12, 1, 5, 0], [])),
  (((.tableswitch 171 0 6 #[43, 54, 74, 117, 43, 135, 149]), 9), ([4, 73, 6, 13, 24, 46, 6, 55, 62], [])),
  (((.aload_n 0), 52), ([0], [true, true, true, false])),
  (((.aload_n 1), 53), ([0], [])),
  (((.iload_n 2), 54), ([0], [])),
  (((.aload_n 1), 55), ([0], [])),
  (((.invokevirtual 288), 56), ([9, 14, 1, 5, 0], [])),
  (((.invokevirtual 291), 59), ([9, 65, 4, 11, 0], [])),
  (((.ireturn), 62), ([10], [])),
  (((.aload_n 0), 63), ([0], [true, true, true, false])),
  (((.getfield 184), 64), ([5, 11, 11, 0], [])),
  (((.aload_n 1), 67), ([0], []))], [(((.getfield 295), 68), ([5, 5, 4, 0], [])),
  (((.isub), 71), ([1], [])),
  (((.iload_n 2), 72), ([0], [])),
  (((.if_icmp .ge 8), 73), ([3, 22], [])),
  (((.bipush 8), 76), ([0], [])),
  (((.goto 4), 78), ([3, 23], [])),
  (((.iconst 0), 81), ([0], [false, false, false, false])),
  (((.ireturn), 82), ([10], [false, false, false, false])),
  (((.aload_n 0), 83), ([0], [true, true, true, false])),
  (((.getfield 33), 84), ([5, 11, 6, 3], [])),
  (((.aload_n 1), 87), ([0], [])),
  (((.getfield 190), 88), ([5, 5, 0, 3], [])),
  (((.getfield 145), 91), ([5, 0, 1, 0], [])),
  (((.aaload), 94), ([6], [])),
  (((.getfield 238), 95), ([5, 8, 0, 3], [])),
  (((.iload_n 2), 98), ([0], []))], [(((.aaload), 99), ([6], [])),
  (((.astore_n 3), 100), ([0], [])),
  (((.aload_n 3), 101), ([0], [])),
  (((.getfield 251), 102), ([5, 9, 1, 3], [])),
  (((.aload_n 1), 105), ([0], [])),
  (((.getfield 190), 106), ([5, 5, 0, 3], [])),
  (((.if_acmp .ne 10), 109), ([3, 42], [])),
  (((.aload_n 3), 112), ([0], [])),
  (((.invokevirtual 298), 113), ([9, 34, 1, 9, 0], [])),
  (((.ifCond .ne 8), 116), ([3, 44], [])),
  (((.bipush 9), 119), ([0], [false, false, false, false])),
  (((.goto 4), 121), ([3, 45], [])),
  (((.iconst 0), 124), ([0], [false, false, false, false])),
  (((.ireturn), 125), ([10], [false, false, false, false])),
  (((.aload_n 1), 126), ([0], [false, true, true, false])),
  (((.getfield 201), 127), ([5, 5, 5, 0], []))], [(((.invokestatic 206), 130), ([9, 292, 1, 99, 1], [])),
  (((.iload_n 2), 133), ([0], [])),
  (((.if_icmp .ge 8), 134), ([3, 53], [])),
  (((.bipush 10), 137), ([0], [])),
  (((.goto 4), 139), ([3, 54], [])),
  (((.iconst 0), 142), ([0], [false, false, false, false])),
  (((.ireturn), 143), ([10], [false, false, false, false])),
  (((.aload_n 1), 144), ([0], [false, true, false, false])),
  (((.getfield 301), 145), ([5, 5, 8, 1], [])),
  (((.ifCond .eq 7), 148), ([3, 60], [])),
  (((.iconst 0), 151), ([0], [])),
  (((.goto 5), 152), ([3, 61], [])),
  (((.bipush 11), 155), ([0], [false, false, false, false])),
  (((.ireturn), 157), ([10], [false, false, false, false])),
  (((.aload_n 0), 158), ([0], [true, true, true, false])),
  (((.aload_n 1), 159), ([0], []))], [(((.getfield 190), 160), ([5, 5, 0, 3], [])),
  (((.getfield 145), 163), ([5, 0, 1, 0], [])),
  (((.iload_n 2), 166), ([0], [])),
  (((.invokevirtual 304), 167), ([9, 72, 3, 11, 0], [])),
  (((.ifCond .eq 7), 170), ([3, 71], [])),
  (((.iconst 0), 173), ([0], [])),
  (((.goto 5), 174), ([3, 72], [])),
  (((.bipush 12), 177), ([0], [false, false, false, false])),
  (((.ireturn), 179), ([10], [false, false, false, false])),
  (((.iconst 0), 180), ([0], [false, false, false, false])),
  (((.ireturn), 181), ([10], []))]]
-- 65: yX11_reasonNotToPut
set_option maxRecDepth 100000 in
noncomputable def zcd_65 : List (List zOp) := [[(((.aload_n 1), 0), ([0], [])),
  (((.getfield 190), 1), ([5, 5, 0, 3], [])),
  (((.astore 4), 4), ([0], [])),
  (((.aload_n 0), 6), ([0], [])),
  (((.getfield 33), 7), ([5, 11, 6, 3], [])),
  (((.aload 4), 10), ([0], [])),
  (((.getfield 145), 12), ([5, 0, 1, 0], [])),
  (((.aaload), 15), ([6], [])),
  (((.astore 5), 16), ([0], [])),
  (((.aload 5), 18), ([0], [])),
  (((.getfield 238), 20), ([5, 8, 0, 3], [])),
  (((.iload_n 2), 23), ([0], [])),
  (((.aaload), 24), ([6], [])),
  (((.astore 6), 25), ([0], [])),
  (((.aload 6), 27), ([0], [])),
  (((.getfield 242), 29), ([5, 9, 0, 3], []))], [(((.aload 4), 32), ([0], [])),
  (((.if_acmp .eq 13), 34), ([3, 22], [])),
  (((.aload 6), 37), ([0], [])),
  (((.aload 4), 39), ([0], [])),
  (((.invokevirtual 307), 41), ([9, 28, 2, 9, 0], [])),
  (((.ifCond .eq 5), 44), ([3, 24], [])),
  (((.iconst 0), 47), ([0], [false, false, false, false, false, false, false, false])),
  (((.ireturn), 48), ([10], [])),
  (((.aload 5), 49), ([0], [true, true, true, true, true, true, true, false])),
  (((.getfield 310), 51), ([5, 8, 7, 1], [])),
  (((.ifCond .eq 5), 54), ([3, 29], [])),
  (((.iconst 2), 57), ([0], [])),
  (((.ireturn), 58), ([10], [])),
  (((.aload_n 0), 59), ([0], [true, true, true, true, true, false, true, false])),
  (((.aload_n 1), 60), ([0], [])),
  (((.iload_n 2), 61), ([0], []))], [(((.invokevirtual 313), 62), ([9, 67, 3, 11, 0], [])),
  (((.ifCond .eq 5), 65), ([3, 36], [])),
  (((.iconst 3), 68), ([0], [])),
  (((.ireturn), 69), ([10], [])),
  (((.aload_n 0), 70), ([0], [true, false, true, true, true, false, true, false])),
  (((.aload 4), 71), ([0], [])),
  (((.aload 6), 73), ([0], [])),
  (((.invokevirtual 316), 75), ([9, 66, 3, 11, 0], [])),
  (((.astore 7), 78), ([0], [])),
  (((.aload 7), 80), ([0], [])),
  (((.ifnull 24), 82), ([3, 52], [])),
  (((.aload 4), 85), ([0], [])),
  (((.getfield 107), 87), ([5, 0, 8, 1], [])),
  (((.ifCond .eq 14), 90), ([3, 50], [])),
  (((.aload 7), 93), ([0], [])),
  (((.getfield 190), 95), ([5, 5, 0, 3], []))], [(((.getfield 107), 98), ([5, 0, 8, 1], [])),
  (((.ifCond .eq 5), 101), ([3, 52], [])),
  (((.iconst 4), 104), ([0], [false, false, false, false, false, false, false, false])),
  (((.ireturn), 105), ([10], [])),
  (((.aload_n 0), 106), ([0], [true, false, true, true, true, false, false, true])),
  (((.aload 4), 107), ([0], [])),
  (((.iload_n 2), 109), ([0], [])),
  (((.iload_n 3), 110), ([0], [])),
  (((.aload 7), 111), ([0], [])),
  (((.invokevirtual 320), 113), ([9, 68, 5, 11, 0], [])),
  (((.ifCond .ne 5), 116), ([3, 61], [])),
  (((.iconst 5), 119), ([0], [])),
  (((.ireturn), 120), ([10], [])),
  (((.aload_n 0), 121), ([0], [true, false, false, false, true, false, false, false])),
  (((.aload 4), 122), ([0], [])),
  (((.invokevirtual 138), 124), ([9, 45, 2, 11, 0], []))], [(((.ireturn), 127), ([10], []))]]
-- 66: yX11_rivalOf
set_option maxRecDepth 100000 in
noncomputable def zcd_66 : List (List zOp) := [[(((.aload_n 2), 0), ([0], [])),
  (((.getfield 251), 1), ([5, 9, 1, 3], [])),
  (((.ifnull 11), 4), ([3, 7], [])),
  (((.aload_n 2), 7), ([0], [])),
  (((.getfield 251), 8), ([5, 9, 1, 3], [])),
  (((.aload_n 1), 11), ([0], [])),
  (((.if_acmp .ne 5), 12), ([3, 9], [])),
  (((.aconst_null), 15), ([0], [false, false, false])),
  (((.areturn), 16), ([10], [])),
  (((.aload_n 0), 17), ([0], [true, false, true])),
  (((.aload_n 2), 18), ([0], [])),
  (((.getfield 251), 19), ([5, 9, 1, 3], [])),
  (((.invokevirtual 176), 22), ([9, 53, 2, 11, 0], [])),
  (((.areturn), 25), ([10], []))]]
-- 67: yX11_isFrozen
set_option maxRecDepth 100000 in
noncomputable def zcd_67 : List (List zOp) := [[(((.aload_n 1), 0), ([0], [])),
  (((.getfield 324), 1), ([5, 5, 6, 1], [])),
  (((.ifCond .eq 5), 4), ([3, 5], [])),
  (((.iconst 0), 7), ([0], [])),
  (((.ireturn), 8), ([10], [])),
  (((.iconst 0), 9), ([0], [true, true, true, false, false])),
  (((.istore_n 3), 10), ([0], [])),
  (((.iload_n 3), 11), ([0], [true, true, true, true, false])),
  (((.aload_n 0), 12), ([0], [])),
  (((.getfield 22), 13), ([5, 11, 3, 3], [])),
  (((.invokeinterface 77 1), 16), ([8, 2], [])),
  (((.if_icmp .ge 71), 21), ([3, 41], [])),
  (((.aload_n 0), 24), ([0], [])),
  (((.getfield 22), 25), ([5, 11, 3, 3], [])),
  (((.iload_n 3), 28), ([0], [])),
  (((.invokeinterface 127 2), 29), ([8, 3], []))], [(((.checkcast 327), 34), ([12], [])),
  (((.astore 4), 37), ([0], [])),
  (((.aload 4), 39), ([0], [])),
  (((.getfield 329), 41), ([12], [])),
  (((.iload_n 2), 44), ([0], [])),
  (((.if_icmp .ne 41), 45), ([3, 39], [])),
  (((.aload 4), 48), ([0], [])),
  (((.getfield 332), 50), ([12], [])),
  (((.aload_n 0), 53), ([0], [])),
  (((.getfield 184), 54), ([5, 11, 11, 0], [])),
  (((.if_icmp .gt 29), 57), ([3, 39], [])),
  (((.aload_n 0), 60), ([0], [])),
  (((.getfield 184), 61), ([5, 11, 11, 0], [])),
  (((.aload 4), 64), ([0], [])),
  (((.getfield 335), 66), ([12], [])),
  (((.if_icmp .gt 17), 69), ([3, 39], []))], [(((.aload 4), 72), ([0], [])),
  (((.aload_n 1), 74), ([0], [])),
  (((.getfield 190), 75), ([5, 5, 0, 3], [])),
  (((.invokevirtual 338), 78), ([12], [])),
  (((.ifCond .eq 5), 81), ([3, 39], [])),
  (((.iconst 1), 84), ([0], [])),
  (((.ireturn), 85), ([10], [])),
  (((.iinc 3 1), 86), ([0], [true, true, true, true, false])),
  (((.goto (-78)), 89), ([3, 7], [])),
  (((.iconst 0), 92), ([0], [false, false, false, false, false])),
  (((.ireturn), 93), ([10], []))]]
-- 68: yX11_hasRoom
set_option maxRecDepth 100000 in
noncomputable def zcd_68 : List (List zOp) := [[(((.aload_n 0), 0), ([0], [])),
  (((.getfield 33), 1), ([5, 11, 6, 3], [])),
  (((.aload_n 1), 4), ([0], [])),
  (((.getfield 145), 5), ([5, 0, 1, 0], [])),
  (((.aaload), 8), ([6], [])),
  (((.astore 5), 9), ([0], [])),
  (((.aload 5), 11), ([0], [])),
  (((.getfield 238), 13), ([5, 8, 0, 3], [])),
  (((.iload_n 2), 16), ([0], [])),
  (((.aaload), 17), ([6], [])),
  (((.astore 6), 18), ([0], [])),
  (((.aload_n 0), 20), ([0], [])),
  (((.iload_n 2), 21), ([0], [])),
  (((.invokevirtual 341), 22), ([9, 69, 2, 11, 0], [])),
  (((.istore 7), 25), ([0], [])),
  (((.iload 7), 27), ([0], []))], [(((.aload 6), 29), ([0], [])),
  (((.getfield 254), 31), ([5, 9, 2, 0], [])),
  (((.invokestatic 344), 34), ([9, 70, 1, 99, 1], [])),
  (((.isub), 37), ([1], [])),
  (((.iload_n 3), 38), ([0], [])),
  (((.invokestatic 344), 39), ([9, 70, 1, 99, 1], [])),
  (((.iadd), 42), ([1], [])),
  (((.istore 8), 43), ([0], [])),
  (((.iload_n 3), 45), ([0], [])),
  (((.ifCond .ne 14), 46), ([3, 30], [])),
  (((.aload 6), 49), ([0], [])),
  (((.getfield 242), 51), ([5, 9, 0, 3], [])),
  (((.ifnonnull 6), 54), ([3, 30], [])),
  (((.iinc 8 2), 57), ([0], [])),
  (((.iload 8), 60), ([0], [true, false, true, true, true, true, false, true, true, false, false, false, false])),
  (((.aload_n 0), 62), ([0], []))], [(((.iload_n 2), 63), ([0], [])),
  (((.invokevirtual 347), 64), ([9, 71, 2, 11, 0], [])),
  (((.if_icmp .le 12), 67), ([3, 40], [])),
  (((.iload 8), 70), ([0], [])),
  (((.iload 7), 72), ([0], [])),
  (((.if_icmp .le 5), 74), ([3, 40], [])),
  (((.iconst 0), 77), ([0], [])),
  (((.ireturn), 78), ([10], [])),
  (((.iload_n 3), 79), ([0], [false, false, true, true, true, true, false, false, false, false, false, false, false])),
  (((.ifCond .ne 5), 80), ([3, 44], [])),
  (((.iconst 1), 83), ([0], [])),
  (((.ireturn), 84), ([10], [])),
  (((.iload_n 3), 85), ([0], [false, false, true, true, true, true, false, false, false, false, false, false, false])),
  (((.invokestatic 344), 86), ([9, 70, 1, 99, 1], [])),
  (((.istore 9), 89), ([0], [])),
  (((.iconst 0), 91), ([0], []))], [(((.istore 10), 92), ([0], [])),
  (((.iload 10), 94), ([0], [false, false, true, false, true, true, false, false, false, true, true, false, false])),
  (((.iconst 3), 96), ([0], [])),
  (((.if_icmp .ge 68), 97), ([3, 81], [])),
  (((.aload 5), 100), ([0], [])),
  (((.getfield 238), 102), ([5, 8, 0, 3], [])),
  (((.iload 10), 105), ([0], [])),
  (((.aaload), 107), ([6], [])),
  (((.astore 11), 108), ([0], [])),
  (((.aload 4), 110), ([0], [])),
  (((.ifnull 20), 112), ([3, 66], [])),
  (((.aload 11), 115), ([0], [])),
  (((.getfield 251), 117), ([5, 9, 1, 3], [])),
  (((.aload 4), 120), ([0], [])),
  (((.getfield 190), 122), ([5, 5, 0, 3], [])),
  (((.if_acmp .ne 7), 125), ([3, 66], []))], [(((.iconst 1), 128), ([0], [])),
  (((.goto 4), 129), ([3, 67], [])),
  (((.iconst 0), 132), ([0], [false, false, true, false, true, true, false, false, false, true, true, true, false])),
  (((.istore 12), 133), ([0], [false, false, true, false, true, true, false, false, false, true, true, true, false])),
  (((.iload 10), 135), ([0], [])),
  (((.iload_n 2), 137), ([0], [])),
  (((.if_icmp .eq 21), 138), ([3, 79], [])),
  (((.iload 12), 141), ([0], [])),
  (((.ifCond .ne 16), 143), ([3, 79], [])),
  (((.iload 9), 146), ([0], [])),
  (((.aload 11), 148), ([0], [])),
  (((.getfield 254), 150), ([5, 9, 2, 0], [])),
  (((.invokestatic 344), 153), ([9, 70, 1, 99, 1], [])),
  (((.iadd), 156), ([1], [])),
  (((.istore 9), 157), ([0], [])),
  (((.iinc 10 1), 159), ([0], [false, false, true, false, true, true, false, false, false, true, true, false, false]))], [(((.goto (-68)), 162), ([3, 49], [])),
  (((.iload 9), 165), ([0], [false, false, false, false, false, false, false, false, false, true, false, false, false])),
  (((.iconst 4), 167), ([0], [])),
  (((.if_icmp .gt 7), 168), ([3, 86], [])),
  (((.iconst 1), 171), ([0], [])),
  (((.goto 4), 172), ([3, 87], [])),
  (((.iconst 0), 175), ([0], [false, false, false, false, false, false, false, false, false, false, false, false, false])),
  (((.ireturn), 176), ([10], [false, false, false, false, false, false, false, false, false, false, false, false, false]))]]
-- 69: yX11_placesTaken
set_option maxRecDepth 100000 in
noncomputable def zcd_69 : List (List zOp) := [[(((.iconst 0), 0), ([0], [])),
  (((.istore_n 2), 1), ([0], [])),
  (((.iconst 0), 2), ([0], [])),
  (((.istore_n 3), 3), ([0], [])),
  (((.iload_n 3), 4), ([0], [true, true, true, true, false])),
  (((.iconst 4), 5), ([0], [])),
  (((.if_icmp .ge 44), 6), ([3, 27], [])),
  (((.aload_n 0), 9), ([0], [])),
  (((.getfield 33), 10), ([5, 11, 6, 3], [])),
  (((.iload_n 3), 13), ([0], [])),
  (((.aaload), 14), ([6], [])),
  (((.getfield 238), 15), ([5, 8, 0, 3], [])),
  (((.iload_n 1), 18), ([0], [])),
  (((.aaload), 19), ([6], [])),
  (((.astore 4), 20), ([0], [])),
  (((.iload_n 2), 22), ([0], []))], [(((.aload 4), 23), ([0], [])),
  (((.getfield 254), 25), ([5, 9, 2, 0], [])),
  (((.invokestatic 344), 28), ([9, 70, 1, 99, 1], [])),
  (((.iadd), 31), ([1], [])),
  (((.istore_n 2), 32), ([0], [])),
  (((.aload 4), 33), ([0], [])),
  (((.getfield 242), 35), ([5, 9, 0, 3], [])),
  (((.ifnull 6), 38), ([3, 25], [])),
  (((.iinc 2 2), 41), ([0], [])),
  (((.iinc 3 1), 44), ([0], [true, true, true, true, false])),
  (((.goto (-43)), 47), ([3, 4], [])),
  (((.iload_n 2), 50), ([0], [false, false, true, false, false])),
  (((.ireturn), 51), ([10], []))]]
-- 70: yX11_placesFor
set_option maxRecDepth 100000 in
noncomputable def zcd_70 : List (List zOp) := [[(((.iload_n 0), 0), ([0], [])),
  (((.ifCond .ne 5), 1), ([3, 4], [])),
  (((.iconst 0), 4), ([0], [])),
  (((.ireturn), 5), ([10], [])),
  (((.iload_n 0), 6), ([0], [true])),
  (((.bipush 50), 7), ([0], [])),
  (((.if_icmp .gt 7), 9), ([3, 9], [])),
  (((.iconst 1), 12), ([0], [])),
  (((.goto 4), 13), ([3, 10], [])),
  (((.iconst 2), 16), ([0], [false])),
  (((.ireturn), 17), ([10], [false]))]]
-- 71: yX11_placesIn
set_option maxRecDepth 100000 in
noncomputable def zcd_71 : List (List zOp) := [[(((.iconst 4), 0), ([0], [])),
  (((.iconst 3), 1), ([0], [])),
  (((.aload_n 0), 2), ([0], [])),
  (((.getfield 43), 3), ([5, 11, 8, 3], [])),
  (((.iload_n 1), 6), ([0], [])),
  (((.iaload), 7), ([6], [])),
  (((.invokestatic 206), 8), ([9, 292, 1, 99, 1], [])),
  (((.isub), 11), ([1], [])),
  (((.imul), 12), ([1], [])),
  (((.aload_n 0), 13), ([0], [])),
  (((.getfield 47), 14), ([5, 11, 9, 3], [])),
  (((.iload_n 1), 17), ([0], [])),
  (((.iaload), 18), ([6], [])),
  (((.iadd), 19), ([1], [])),
  (((.ireturn), 20), ([10], []))]]
-- 72: yX11_isDrained
set_option maxRecDepth 100000 in
noncomputable def zcd_72 : List (List zOp) := [[(((.aload_n 0), 0), ([0], [])),
  (((.getfield 33), 1), ([5, 11, 6, 3], [])),
  (((.iload_n 1), 4), ([0], [])),
  (((.aaload), 5), ([6], [])),
  (((.getfield 238), 6), ([5, 8, 0, 3], [])),
  (((.iload_n 2), 9), ([0], [])),
  (((.aaload), 10), ([6], [])),
  (((.getfield 242), 11), ([5, 9, 0, 3], [])),
  (((.astore_n 3), 14), ([0], [])),
  (((.iconst 0), 15), ([0], [])),
  (((.istore 4), 16), ([0], [])),
  (((.iload 4), 18), ([0], [true, true, true, true, true, false])),
  (((.aload_n 0), 20), ([0], [])),
  (((.getfield 10), 21), ([5, 11, 0, 3], [])),
  (((.invokeinterface 77 1), 24), ([8, 2], [])),
  (((.if_icmp .ge 52), 29), ([3, 38], []))], [(((.aload_n 0), 32), ([0], [])),
  (((.getfield 10), 33), ([5, 11, 0, 3], [])),
  (((.iload 4), 36), ([0], [])),
  (((.invokeinterface 127 2), 38), ([8, 3], [])),
  (((.checkcast 88), 43), ([7, 0], [])),
  (((.astore 5), 46), ([0], [])),
  (((.aload 5), 48), ([0], [])),
  (((.getfield 145), 50), ([5, 0, 1, 0], [])),
  (((.iload_n 1), 53), ([0], [])),
  (((.if_icmp .ne 21), 54), ([3, 36], [])),
  (((.aload 5), 57), ([0], [])),
  (((.aload_n 3), 59), ([0], [])),
  (((.if_acmp .eq 15), 60), ([3, 36], [])),
  (((.aload 5), 63), ([0], [])),
  (((.getfield 350), 65), ([5, 0, 11, 3], [])),
  (((.iload_n 2), 68), ([0], []))], [(((.iaload), 69), ([6], [])),
  (((.ifCond .le 5), 70), ([3, 36], [])),
  (((.iconst 0), 73), ([0], [])),
  (((.ireturn), 74), ([10], [])),
  (((.iinc 4 1), 75), ([0], [true, true, true, true, true, false])),
  (((.goto (-60)), 78), ([3, 11], [])),
  (((.iconst 1), 81), ([0], [false, false, false, false, false, false])),
  (((.ireturn), 82), ([10], []))]]
-- 73: yX11_pass
set_option maxRecDepth 100000 in
noncomputable def zcd_73 : List (List zOp) := [[(((.iload_n 1), 0), ([0], [])),
  (((.iconst 1), 1), ([0], [])),
  (((.sipush 200), 2), ([0], [])),
  (((.invokestatic 59), 5), ([9, 131, 3, 99, 1], [])),
  (((.aload_n 0), 8), ([0], [])),
  (((.getfield 184), 9), ([5, 11, 11, 0], [])),
  (((.iload_n 1), 12), ([0], [])),
  (((.iadd), 13), ([1], [])),
  (((.sipush 20000), 14), ([0], [])),
  (((.if_icmp .le 14), 17), ([3, 15], [])),
  (((.new 83), 20), ([11, 1], [])),
  (((.dup), 23), ([12], [])),
  (((.ldc_w 353), 24), ([12], [])),
  (((.invokespecial 87), 27), ([12], [])),
  (((.athrow), 30), ([12], [])),
  (((.iconst 0), 31), ([0], [true, true, false, false, false]))], [(((.istore_n 2), 32), ([0], [])),
  (((.iconst 0), 33), ([0], [])),
  (((.istore_n 3), 34), ([0], [])),
  (((.iload_n 3), 35), ([0], [true, true, true, true, false])),
  (((.iload_n 1), 36), ([0], [])),
  (((.if_icmp .ge 64), 37), ([3, 56], [])),
  (((.aload_n 0), 40), ([0], [])),
  (((.dup), 41), ([0], [])),
  (((.getfield 184), 42), ([5, 11, 11, 0], [])),
  (((.iconst 1), 45), ([0], [])),
  (((.iadd), 46), ([1], [])),
  (((.putfield 184), 47), ([5, 11, 11, 0], [])),
  (((.iconst 0), 50), ([0], [])),
  (((.istore 4), 51), ([0], [])),
  (((.iload 4), 53), ([0], [true, true, true, true, true])),
  (((.iconst 4), 55), ([0], []))], [(((.if_icmp .ge 19), 56), ([3, 40], [])),
  (((.aload_n 0), 59), ([0], [])),
  (((.getfield 33), 60), ([5, 11, 6, 3], [])),
  (((.iload 4), 63), ([0], [])),
  (((.aaload), 65), ([6], [])),
  (((.invokevirtual 355), 66), ([9, 26, 1, 8, 0], [])),
  (((.iinc 4 1), 69), ([0], [])),
  (((.goto (-19)), 72), ([3, 30], [])),
  (((.aload_n 0), 75), ([0], [true, true, true, true, false])),
  (((.invokevirtual 358), 76), ([9, 74, 1, 11, 0], [])),
  (((.iload_n 2), 79), ([0], [])),
  (((.aload_n 0), 80), ([0], [])),
  (((.iconst 1), 81), ([0], [])),
  (((.invokevirtual 361), 82), ([9, 76, 2, 11, 0], [])),
  (((.iadd), 85), ([1], [])),
  (((.istore_n 2), 86), ([0], []))], [(((.iload_n 2), 87), ([0], [])),
  (((.aload_n 0), 88), ([0], [])),
  (((.iconst 0), 89), ([0], [])),
  (((.invokevirtual 361), 90), ([9, 76, 2, 11, 0], [])),
  (((.iadd), 93), ([1], [])),
  (((.istore_n 2), 94), ([0], [])),
  (((.iinc 3 1), 95), ([0], [])),
  (((.goto (-63)), 98), ([3, 19], [])),
  (((.iload_n 2), 101), ([0], [false, false, true, false, false])),
  (((.ireturn), 102), ([10], []))]]
-- 74: yX11_leaveWithTrains
set_option maxRecDepth 100000 in
noncomputable def zcd_74 : List (List zOp) := [[(((.iconst 0), 0), ([0], [])),
  (((.istore_n 1), 1), ([0], [])),
  (((.iload_n 1), 2), ([0], [true, true, false])),
  (((.aload_n 0), 3), ([0], [])),
  (((.getfield 25), 4), ([5, 11, 4, 3], [])),
  (((.invokeinterface 77 1), 7), ([8, 2], [])),
  (((.if_icmp .ge 39), 12), ([3, 23], [])),
  (((.aload_n 0), 15), ([0], [])),
  (((.getfield 25), 16), ([5, 11, 4, 3], [])),
  (((.iload_n 1), 19), ([0], [])),
  (((.invokeinterface 127 2), 20), ([8, 3], [])),
  (((.checkcast 365), 25), ([12], [])),
  (((.astore_n 2), 28), ([0], [])),
  (((.aload_n 2), 29), ([0], [])),
  (((.getfield 367), 30), ([12], [])),
  (((.aload_n 0), 33), ([0], []))], [(((.getfield 184), 34), ([5, 11, 11, 0], [])),
  (((.if_icmp .ne 8), 37), ([3, 21], [])),
  (((.aload_n 0), 40), ([0], [])),
  (((.aload_n 2), 41), ([0], [])),
  (((.invokevirtual 368), 42), ([9, 75, 2, 11, 0], [])),
  (((.iinc 1 1), 45), ([0], [true, true, false])),
  (((.goto (-46)), 48), ([3, 2], [])),
  (((.return_), 51), ([10], [false, false, false]))]]
-- 75: yX11_leaveWith
set_option maxRecDepth 100000 in
noncomputable def zcd_75 : List (List zOp) := [[(((.aload_n 1), 0), ([0], [])),
  (((.iconst 0), 1), ([0], [])),
  (((.putfield 372), 2), ([12], [])),
  (((.iconst 0), 5), ([0], [])),
  (((.istore_n 2), 6), ([0], [])),
  (((.iload_n 2), 7), ([0], [true, true, true, false])),
  (((.aload_n 0), 8), ([0], [])),
  (((.getfield 19), 9), ([5, 11, 2, 3], [])),
  (((.invokeinterface 77 1), 12), ([8, 2], [])),
  (((.if_icmp .ge 66), 17), ([3, 41], [])),
  (((.aload_n 0), 20), ([0], [])),
  (((.getfield 19), 21), ([5, 11, 2, 3], [])),
  (((.iload_n 2), 24), ([0], [])),
  (((.invokeinterface 127 2), 25), ([8, 3], [])),
  (((.checkcast 182), 30), ([7, 5], [])),
  (((.astore_n 3), 33), ([0], []))], [(((.aload_n 3), 34), ([0], [])),
  (((.getfield 375), 35), ([5, 5, 7, 3], [])),
  (((.aload_n 1), 38), ([0], [])),
  (((.if_acmp .ne 38), 39), ([3, 39], [])),
  (((.aload_n 3), 42), ([0], [])),
  (((.aconst_null), 43), ([0], [])),
  (((.putfield 375), 44), ([5, 5, 7, 3], [])),
  (((.aload_n 3), 47), ([0], [])),
  (((.getfield 261), 48), ([5, 5, 2, 0], [])),
  (((.ifCond .ne 26), 51), ([3, 39], [])),
  (((.aload_n 3), 54), ([0], [])),
  (((.invokevirtual 285), 55), ([9, 12, 1, 5, 0], [])),
  (((.iconst 5), 58), ([0], [])),
  (((.if_icmp .ne 18), 59), ([3, 39], [])),
  (((.aload_n 3), 62), ([0], [])),
  (((.iconst 1), 63), ([0], []))], [(((.putfield 301), 64), ([5, 5, 8, 1], [])),
  (((.aload_n 1), 67), ([0], [])),
  (((.dup), 68), ([0], [])),
  (((.getfield 372), 69), ([12], [])),
  (((.iconst 1), 72), ([0], [])),
  (((.iadd), 73), ([1], [])),
  (((.putfield 372), 74), ([12], [])),
  (((.iinc 2 1), 77), ([0], [true, true, true, false])),
  (((.goto (-73)), 80), ([3, 5], [])),
  (((.return_), 83), ([10], [false, false, false, false]))]]
-- 76: yX11_takeTurns
set_option maxRecDepth 100000 in
noncomputable def zcd_76 : List (List zOp) := [[(((.iconst 0), 0), ([0], [])),
  (((.istore_n 2), 1), ([0], [])),
  (((.iconst 0), 2), ([0], [])),
  (((.istore_n 3), 3), ([0], [])),
  (((.iload_n 3), 4), ([0], [true, true, true, true, false])),
  (((.aload_n 0), 5), ([0], [])),
  (((.getfield 19), 6), ([5, 11, 2, 3], [])),
  (((.invokeinterface 77 1), 9), ([8, 2], [])),
  (((.if_icmp .ge 72), 14), ([3, 37], [])),
  (((.aload_n 0), 17), ([0], [])),
  (((.getfield 276), 18), ([5, 11, 13, 1], [])),
  (((.ifCond .ne 65), 21), ([3, 37], [])),
  (((.aload_n 0), 24), ([0], [])),
  (((.getfield 19), 25), ([5, 11, 2, 3], [])),
  (((.iload_n 3), 28), ([0], [])),
  (((.invokeinterface 127 2), 29), ([8, 3], []))], [(((.checkcast 182), 34), ([7, 5], [])),
  (((.astore 4), 37), ([0], [])),
  (((.aload 4), 39), ([0], [])),
  (((.getfield 190), 41), ([5, 5, 0, 3], [])),
  (((.getfield 107), 44), ([5, 0, 8, 1], [])),
  (((.iload_n 1), 47), ([0], [])),
  (((.if_icmp .ne 32), 48), ([3, 35], [])),
  (((.aload 4), 51), ([0], [])),
  (((.getfield 261), 53), ([5, 5, 2, 0], [])),
  (((.ifCond .ne 24), 56), ([3, 35], [])),
  (((.aload_n 0), 59), ([0], [])),
  (((.aload 4), 60), ([0], [])),
  (((.invokevirtual 279), 62), ([9, 64, 2, 11, 0], [])),
  (((.ifCond .ne 15), 65), ([3, 35], [])),
  (((.aload_n 0), 68), ([0], [])),
  (((.aload 4), 69), ([0], []))], [(((.invokevirtual 379), 71), ([9, 77, 2, 11, 0], [])),
  (((.ifCond .eq 6), 74), ([3, 35], [])),
  (((.iinc 2 1), 77), ([0], [])),
  (((.iinc 3 1), 80), ([0], [true, true, true, true, false])),
  (((.goto (-79)), 83), ([3, 4], [])),
  (((.iload_n 2), 86), ([0], [false, false, true, false, false])),
  (((.ireturn), 87), ([10], []))]]
-- 77: yX11_goOn
set_option maxRecDepth 100000 in
noncomputable def zcd_77 : List (List zOp) := [[(((.aload_n 0), 0), ([0], [])),
  (((.getfield 53), 1), ([5, 11, 12, 0], [])),
  (((.iconst 1), 4), ([0], [])),
  (((.if_icmp .ne 10), 5), ([3, 9], [])),
  (((.aload_n 0), 8), ([0], [])),
  (((.iconst 1), 9), ([0], [])),
  (((.putfield 276), 10), ([5, 11, 13, 1], [])),
  (((.iconst 0), 13), ([0], [])),
  (((.ireturn), 14), ([10], [])),
  (((.aload_n 0), 15), ([0], [true, true, false])),
  (((.aload_n 1), 16), ([0], [])),
  (((.invokevirtual 383), 17), ([9, 78, 2, 11, 0], [])),
  (((.aload_n 0), 20), ([0], [])),
  (((.aload_n 0), 21), ([0], [])),
  (((.getfield 33), 22), ([5, 11, 6, 3], [])),
  (((.aload_n 1), 25), ([0], []))], [(((.getfield 190), 26), ([5, 5, 0, 3], [])),
  (((.getfield 145), 29), ([5, 0, 1, 0], [])),
  (((.aaload), 32), ([6], [])),
  (((.invokevirtual 218), 33), ([9, 60, 2, 11, 0], [])),
  (((.aload_n 1), 36), ([0], [])),
  (((.invokevirtual 194), 37), ([9, 10, 1, 5, 0], [])),
  (((.istore_n 2), 40), ([0], [])),
  (((.aload_n 0), 41), ([0], [])),
  (((.getfield 53), 42), ([5, 11, 12, 0], [])),
  (((.iconst 2), 45), ([0], [])),
  (((.if_icmp .ne 10), 46), ([3, 32], [])),
  (((.aload_n 0), 49), ([0], [])),
  (((.iconst 1), 50), ([0], [])),
  (((.putfield 276), 51), ([5, 11, 13, 1], [])),
  (((.iload_n 2), 54), ([0], [])),
  (((.ireturn), 55), ([10], []))], [(((.iload_n 2), 56), ([0], [true, true, true])),
  (((.ifCond .ne 8), 57), ([3, 37], [])),
  (((.aload_n 0), 60), ([0], [])),
  (((.aload_n 1), 61), ([0], [])),
  (((.invokevirtual 387), 62), ([9, 80, 2, 11, 0], [])),
  (((.iconst 1), 65), ([0], [false, false, false])),
  (((.ireturn), 66), ([10], []))]]
-- 78: yX11_doEffect
set_option maxRecDepth 100000 in
noncomputable def zcd_78 : List (List zOp) := [[(((.aload_n 0), 0), ([0], [])),
  (((.getfield 33), 1), ([5, 11, 6, 3], [])),
  (((.aload_n 1), 4), ([0], [])),
  (((.getfield 190), 5), ([5, 5, 0, 3], [])),
  (((.getfield 145), 8), ([5, 0, 1, 0], [])),
  (((.aaload), 11), ([6], [])),
  (((.getfield 238), 12), ([5, 8, 0, 3], [])),
  (((.astore_n 2), 15), ([0], [])),
  (((.aload_n 1), 16), ([0], [])),
  (((.invokevirtual 282), 17), ([9, 13, 1, 5, 0], [])),
  (((.istore_n 3), 20), ([0], [])),
  (((.aload_n 1), 21), ([0], [])),
  (((.invokevirtual 285), 22), ([9, 12, 1, 5, 0], [])),
  (((.tableswitch 110 0 4 #[35, 110, 91, 110, 35]), 25), ([4, 55, 14, 55, 44, 55, 14], [])),
  (((.aload_n 2), 60), ([0], [true, true, true, true])),
  (((.iload_n 3), 61), ([0], []))], [(((.aaload), 62), ([6], [])),
  (((.aload_n 1), 63), ([0], [])),
  (((.getfield 190), 64), ([5, 5, 0, 3], [])),
  (((.invokevirtual 307), 67), ([9, 28, 2, 9, 0], [])),
  (((.ifCond .eq 20), 70), ([3, 30], [])),
  (((.aload_n 0), 73), ([0], [])),
  (((.aload_n 1), 74), ([0], [])),
  (((.getfield 190), 75), ([5, 5, 0, 3], [])),
  (((.invokevirtual 222), 78), ([9, 58, 2, 11, 0], [])),
  (((.aload_n 0), 81), ([0], [])),
  (((.aload_n 1), 82), ([0], [])),
  (((.iconst 4), 83), ([0], [])),
  (((.invokevirtual 234), 84), ([9, 59, 3, 11, 0], [])),
  (((.goto 48), 87), ([3, 55], [])),
  (((.aload_n 2), 90), ([0], [true, true, true, true])),
  (((.iload_n 3), 91), ([0], []))], [(((.aaload), 92), ([6], [])),
  (((.getfield 242), 93), ([5, 9, 0, 3], [])),
  (((.aload_n 1), 96), ([0], [])),
  (((.getfield 190), 97), ([5, 5, 0, 3], [])),
  (((.if_acmp .eq 35), 100), ([3, 55], [])),
  (((.aload_n 0), 103), ([0], [])),
  (((.aload_n 1), 104), ([0], [])),
  (((.iload_n 3), 105), ([0], [])),
  (((.aload_n 1), 106), ([0], [])),
  (((.invokevirtual 288), 107), ([9, 14, 1, 5, 0], [])),
  (((.invokevirtual 390), 110), ([9, 79, 4, 11, 0], [])),
  (((.goto 22), 113), ([3, 55], [])),
  (((.aload_n 2), 116), ([0], [true, true, true, true])),
  (((.iload_n 3), 117), ([0], [])),
  (((.aaload), 118), ([6], [])),
  (((.invokevirtual 298), 119), ([9, 34, 1, 9, 0], []))], [(((.iconst 2), 122), ([0], [])),
  (((.if_icmp .ne 12), 123), ([3, 55], [])),
  (((.aload_n 0), 126), ([0], [])),
  (((.aload_n 1), 127), ([0], [])),
  (((.invokevirtual 214), 128), ([9, 56, 2, 11, 0], [])),
  (((.pop), 131), ([0], [])),
  (((.goto 3), 132), ([3, 55], [])),
  (((.return_), 135), ([10], [false, false, false, false]))]]
-- 79: yX11_put
set_option maxRecDepth 100000 in
noncomputable def zcd_79 : List (List zOp) := [[(((.aload_n 1), 0), ([0], [])),
  (((.getfield 190), 1), ([5, 5, 0, 3], [])),
  (((.astore 4), 4), ([0], [])),
  (((.aload_n 0), 6), ([0], [])),
  (((.getfield 33), 7), ([5, 11, 6, 3], [])),
  (((.aload 4), 10), ([0], [])),
  (((.getfield 145), 12), ([5, 0, 1, 0], [])),
  (((.aaload), 15), ([6], [])),
  (((.getfield 238), 16), ([5, 8, 0, 3], [])),
  (((.iload_n 2), 19), ([0], [])),
  (((.aaload), 20), ([6], [])),
  (((.astore 5), 21), ([0], [])),
  (((.aload_n 0), 23), ([0], [])),
  (((.aload 4), 24), ([0], [])),
  (((.aload 5), 26), ([0], [])),
  (((.invokevirtual 316), 28), ([9, 66, 3, 11, 0], []))], [(((.astore 6), 31), ([0], [])),
  (((.aload 6), 33), ([0], [])),
  (((.ifnull 18), 35), ([3, 26], [])),
  (((.aload 6), 38), ([0], [])),
  (((.iconst 1), 40), ([0], [])),
  (((.putfield 261), 41), ([5, 5, 2, 0], [])),
  (((.aload_n 0), 44), ([0], [])),
  (((.aload 6), 45), ([0], [])),
  (((.getfield 190), 47), ([5, 5, 0, 3], [])),
  (((.invokevirtual 222), 50), ([9, 58, 2, 11, 0], [])),
  (((.iload_n 3), 53), ([0], [false, true, true, true, true, true, false])),
  (((.ifCond .le 19), 54), ([3, 35], [])),
  (((.aload 5), 57), ([0], [])),
  (((.aload 5), 59), ([0], [])),
  (((.getfield 242), 61), ([5, 9, 0, 3], [])),
  (((.aload 4), 64), ([0], []))], [(((.iload_n 3), 66), ([0], [])),
  (((.invokevirtual 257), 67), ([9, 29, 4, 9, 0], [])),
  (((.goto 30), 70), ([3, 51], [])),
  (((.aload_n 1), 73), ([0], [false, true, true, false, true, true, false])),
  (((.getfield 226), 74), ([5, 5, 9, 3], [])),
  (((.iload_n 2), 77), ([0], [])),
  (((.iconst 1), 78), ([0], [])),
  (((.bastore), 79), ([6], [])),
  (((.aload_n 1), 80), ([0], [])),
  (((.getfield 247), 81), ([5, 5, 10, 3], [])),
  (((.iload_n 2), 84), ([0], [])),
  (((.aload 5), 85), ([0], [])),
  (((.getfield 242), 87), ([5, 9, 0, 3], [])),
  (((.aastore), 90), ([6], [])),
  (((.aload 5), 91), ([0], [])),
  (((.aload 4), 93), ([0], []))], [(((.aconst_null), 95), ([0], [])),
  (((.iconst 0), 96), ([0], [])),
  (((.invokevirtual 257), 97), ([9, 29, 4, 9, 0], [])),
  (((.return_), 100), ([10], [false, false, false, false, false, false, false]))]]
-- 80: yX11_noteStep
set_option maxRecDepth 100000 in
noncomputable def zcd_80 : List (List zOp) := [[(((.aload_n 1), 0), ([0], [])),
  (((.aload_n 1), 1), ([0], [])),
  (((.getfield 273), 2), ([5, 5, 3, 0], [])),
  (((.iconst 1), 5), ([0], [])),
  (((.iadd), 6), ([1], [])),
  (((.aload_n 0), 7), ([0], [])),
  (((.getfield 184), 8), ([5, 11, 11, 0], [])),
  (((.invokevirtual 264), 11), ([9, 11, 3, 5, 0], [])),
  (((.aload_n 1), 14), ([0], [])),
  (((.getfield 273), 15), ([5, 5, 3, 0], [])),
  (((.aload_n 1), 18), ([0], [])),
  (((.getfield 394), 19), ([5, 5, 1, 3], [])),
  (((.getfield 163), 22), ([5, 4, 3, 0], [])),
  (((.if_icmp .lt 9), 25), ([3, 18], [])),
  (((.aload_n 0), 28), ([0], [])),
  (((.aload_n 1), 29), ([0], []))], [(((.iconst 2), 30), ([0], [])),
  (((.invokevirtual 234), 31), ([9, 59, 3, 11, 0], [])),
  (((.return_), 34), ([10], [false, false]))]]
-- 81: yX11_die
set_option maxRecDepth 100000 in
noncomputable def zcd_81 : List (List zOp) := [[(((.aload_n 0), 0), ([0], [])),
  (((.getfield 276), 1), ([5, 11, 13, 1], [])),
  (((.ifCond .eq 14), 4), ([3, 8], [])),
  (((.new 83), 7), ([11, 1], [])),
  (((.dup), 10), ([12], [])),
  (((.ldc_w 398), 11), ([12], [])),
  (((.invokespecial 87), 14), ([12], [])),
  (((.athrow), 17), ([12], [])),
  (((.aload_n 0), 18), ([0], [true, true])),
  (((.iload_n 1), 19), ([0], [])),
  (((.ifCond .eq 7), 20), ([3, 13], [])),
  (((.iconst 2), 23), ([0], [])),
  (((.goto 4), 24), ([3, 14], [])),
  (((.iconst 1), 27), ([0], [false, false])),
  (((.putfield 53), 28), ([5, 11, 12, 0], [false, false])),
  (((.return_), 31), ([10], []))]]
-- 82: yX11_rise
set_option maxRecDepth 100000 in
noncomputable def zcd_82 : List (List zOp) := [[(((.aload_n 0), 0), ([0], [])),
  (((.getfield 276), 1), ([5, 11, 13, 1], [])),
  (((.ifCond .ne 14), 4), ([3, 8], [])),
  (((.new 83), 7), ([11, 1], [])),
  (((.dup), 10), ([12], [])),
  (((.ldc_w 400), 11), ([12], [])),
  (((.invokespecial 87), 14), ([12], [])),
  (((.athrow), 17), ([12], [])),
  (((.aload_n 0), 18), ([0], [true, false, false])),
  (((.iconst 0), 19), ([0], [])),
  (((.putfield 276), 20), ([5, 11, 13, 1], [])),
  (((.aload_n 0), 23), ([0], [])),
  (((.iconst 0), 24), ([0], [])),
  (((.putfield 53), 25), ([5, 11, 12, 0], [])),
  (((.iconst 0), 28), ([0], [])),
  (((.istore_n 1), 29), ([0], []))], [(((.iconst 0), 30), ([0], [])),
  (((.istore_n 2), 31), ([0], [])),
  (((.iload_n 2), 32), ([0], [true, true, true])),
  (((.aload_n 0), 33), ([0], [])),
  (((.getfield 19), 34), ([5, 11, 2, 3], [])),
  (((.invokeinterface 77 1), 37), ([8, 2], [])),
  (((.if_icmp .ge 31), 42), ([3, 33], [])),
  (((.aload_n 0), 45), ([0], [])),
  (((.getfield 19), 46), ([5, 11, 2, 3], [])),
  (((.iload_n 2), 49), ([0], [])),
  (((.invokeinterface 127 2), 50), ([8, 3], [])),
  (((.checkcast 182), 55), ([7, 5], [])),
  (((.getfield 261), 58), ([5, 5, 2, 0], [])),
  (((.ifCond .ne 6), 61), ([3, 31], [])),
  (((.iinc 1 1), 64), ([0], [])),
  (((.iinc 2 1), 67), ([0], [true, true, true]))], [(((.goto (-38)), 70), ([3, 18], [])),
  (((.iload_n 1), 73), ([0], [false, true, false])),
  (((.ireturn), 74), ([10], []))]]
-- 83: yX11_isDead
set_option maxRecDepth 100000 in
noncomputable def zcd_83 : List (List zOp) := [[(((.aload_n 0), 0), ([0], [])),
  (((.getfield 276), 1), ([5, 11, 13, 1], [])),
  (((.ireturn), 4), ([10], []))]]
-- 84: yX11_effects
set_option maxRecDepth 100000 in
noncomputable def zcd_84 : List (List zOp) := [[(((.aload_n 0), 0), ([0], [])),
  (((.getfield 270), 1), ([5, 11, 14, 0], [])),
  (((.ireturn), 4), ([10], []))]]
-- 85: yX11_stable
set_option maxRecDepth 100000 in
noncomputable def zcd_85 : List (List zOp) := [[(((.aload_n 0), 0), ([0], [])),
  (((.iload_n 1), 1), ([0], [])),
  (((.iload_n 2), 2), ([0], [])),
  (((.invokevirtual 402), 3), ([9, 132, 3, 11, 0], [])),
  (((.getfield 242), 6), ([5, 9, 0, 3], [])),
  (((.invokestatic 406), 9), ([9, 134, 1, 99, 1], [])),
  (((.ireturn), 12), ([10], []))]]
-- 86: yX11_candidate
set_option maxRecDepth 100000 in
noncomputable def zcd_86 : List (List zOp) := [[(((.aload_n 0), 0), ([0], [])),
  (((.iload_n 1), 1), ([0], [])),
  (((.iload_n 2), 2), ([0], [])),
  (((.invokevirtual 402), 3), ([9, 132, 3, 11, 0], [])),
  (((.getfield 251), 6), ([5, 9, 1, 3], [])),
  (((.invokestatic 406), 9), ([9, 134, 1, 99, 1], [])),
  (((.ireturn), 12), ([10], []))]]
-- 87: yX11_share
set_option maxRecDepth 100000 in
noncomputable def zcd_87 : List (List zOp) := [[(((.aload_n 0), 0), ([0], [])),
  (((.iload_n 1), 1), ([0], [])),
  (((.iload_n 2), 2), ([0], [])),
  (((.invokevirtual 402), 3), ([9, 132, 3, 11, 0], [])),
  (((.getfield 254), 6), ([5, 9, 2, 0], [])),
  (((.ireturn), 9), ([10], []))]]
-- 88: yX11_sees
set_option maxRecDepth 100000 in
noncomputable def zcd_88 : List (List zOp) := [[(((.iload_n 1), 0), ([0], [])),
  (((.iconst 0), 1), ([0], [])),
  (((.iconst 3), 2), ([0], [])),
  (((.invokestatic 59), 3), ([9, 131, 3, 99, 1], [])),
  (((.iload_n 2), 6), ([0], [])),
  (((.iconst 0), 7), ([0], [])),
  (((.sipush 199), 8), ([0], [])),
  (((.invokestatic 59), 11), ([9, 131, 3, 99, 1], [])),
  (((.aload_n 0), 14), ([0], [])),
  (((.iload_n 1), 15), ([0], [])),
  (((.iload_n 2), 16), ([0], [])),
  (((.invokevirtual 409), 17), ([9, 89, 3, 11, 0], [])),
  (((.invokestatic 406), 20), ([9, 134, 1, 99, 1], [])),
  (((.ireturn), 23), ([10], []))]]
-- 89: yX11_seenBy
set_option maxRecDepth 100000 in
noncomputable def zcd_89 : List (List zOp) := [[(((.aload_n 0), 0), ([0], [])),
  (((.getfield 33), 1), ([5, 11, 6, 3], [])),
  (((.iload_n 1), 4), ([0], [])),
  (((.aaload), 5), ([6], [])),
  (((.getfield 413), 6), ([5, 8, 2, 3], [])),
  (((.iload_n 2), 9), ([0], [])),
  (((.aaload), 10), ([6], [])),
  (((.astore_n 3), 11), ([0], [])),
  (((.aload_n 3), 12), ([0], [])),
  (((.ifnull 5), 13), ([3, 12], [])),
  (((.aload_n 3), 16), ([0], [])),
  (((.areturn), 17), ([10], [])),
  (((.aload_n 0), 18), ([0], [true, true, true, false, false, false])),
  (((.getfield 33), 19), ([5, 11, 6, 3], [])),
  (((.iload_n 1), 22), ([0], [])),
  (((.aaload), 23), ([6], []))], [(((.getfield 238), 24), ([5, 8, 0, 3], [])),
  (((.iload_n 2), 27), ([0], [])),
  (((.invokestatic 415), 28), ([9, 135, 1, 99, 1], [])),
  (((.aaload), 31), ([6], [])),
  (((.astore 4), 32), ([0], [])),
  (((.bipush 37), 34), ([0], [])),
  (((.iload_n 2), 36), ([0], [])),
  (((.imul), 37), ([1], [])),
  (((.bipush 11), 38), ([0], [])),
  (((.iload_n 1), 40), ([0], [])),
  (((.imul), 41), ([1], [])),
  (((.iadd), 42), ([1], [])),
  (((.bipush 100), 43), ([0], [])),
  (((.irem), 45), ([1], [])),
  (((.istore 5), 46), ([0], [])),
  (((.iload 5), 48), ([0], []))], [(((.aload 4), 50), ([0], [])),
  (((.getfield 254), 52), ([5, 9, 2, 0], [])),
  (((.if_icmp .ge 11), 55), ([3, 38], [])),
  (((.aload 4), 58), ([0], [])),
  (((.getfield 251), 60), ([5, 9, 1, 3], [])),
  (((.goto 8), 63), ([3, 40], [])),
  (((.aload 4), 66), ([0], [false, false, false, false, true, false])),
  (((.getfield 242), 68), ([5, 9, 0, 3], [])),
  (((.areturn), 71), ([10], [false, false, false, false, false, false]))]]
-- 90: yX11_seers
set_option maxRecDepth 100000 in
noncomputable def zcd_90 : List (List zOp) := [[(((.iload_n 1), 0), ([0], [])),
  (((.aload_n 0), 1), ([0], [])),
  (((.getfield 10), 2), ([5, 11, 0, 3], [])),
  (((.invokeinterface 77 1), 5), ([8, 2], [])),
  (((.invokestatic 123), 10), ([9, 130, 2, 99, 1], [])),
  (((.iload_n 2), 13), ([0], [])),
  (((.iconst 0), 14), ([0], [])),
  (((.iconst 2), 15), ([0], [])),
  (((.invokestatic 59), 16), ([9, 131, 3, 99, 1], [])),
  (((.aload_n 0), 19), ([0], [])),
  (((.getfield 10), 20), ([5, 11, 0, 3], [])),
  (((.iload_n 1), 23), ([0], [])),
  (((.invokeinterface 127 2), 24), ([8, 3], [])),
  (((.checkcast 88), 29), ([7, 0], [])),
  (((.astore_n 3), 32), ([0], [])),
  (((.iconst 0), 33), ([0], []))], [(((.istore 4), 34), ([0], [])),
  (((.iconst 0), 36), ([0], [])),
  (((.istore 5), 37), ([0], [])),
  (((.iload 5), 39), ([0], [true, false, true, true, true, true])),
  (((.sipush 200), 41), ([0], [])),
  (((.if_icmp .ge 35), 44), ([3, 36], [])),
  (((.iload 5), 47), ([0], [])),
  (((.invokestatic 415), 49), ([9, 135, 1, 99, 1], [])),
  (((.iload_n 2), 52), ([0], [])),
  (((.if_icmp .ne 20), 53), ([3, 34], [])),
  (((.aload_n 0), 56), ([0], [])),
  (((.aload_n 3), 57), ([0], [])),
  (((.getfield 145), 58), ([5, 0, 1, 0], [])),
  (((.iload 5), 61), ([0], [])),
  (((.invokevirtual 409), 63), ([9, 89, 3, 11, 0], [])),
  (((.aload_n 3), 66), ([0], []))], [(((.if_acmp .ne 6), 67), ([3, 34], [])),
  (((.iinc 4 1), 70), ([0], [])),
  (((.iinc 5 1), 73), ([0], [true, false, true, true, true, true])),
  (((.goto (-37)), 76), ([3, 19], [])),
  (((.iload 4), 79), ([0], [false, false, false, false, true, false])),
  (((.ireturn), 81), ([10], []))]]
-- 91: yX11_begin
set_option maxRecDepth 100000 in
noncomputable def zcd_91 : List (List zOp) := [[(((.iload_n 1), 0), ([0], [])),
  (((.iconst 0), 1), ([0], [])),
  (((.iconst 3), 2), ([0], [])),
  (((.invokestatic 59), 3), ([9, 131, 3, 99, 1], [])),
  (((.iload_n 2), 6), ([0], [])),
  (((.iconst 0), 7), ([0], [])),
  (((.sipush 199), 8), ([0], [])),
  (((.invokestatic 59), 11), ([9, 131, 3, 99, 1], [])),
  (((.aload_n 0), 14), ([0], [])),
  (((.getfield 33), 15), ([5, 11, 6, 3], [])),
  (((.iload_n 1), 18), ([0], [])),
  (((.aaload), 19), ([6], [])),
  (((.getfield 413), 20), ([5, 8, 2, 3], [])),
  (((.astore_n 3), 23), ([0], [])),
  (((.aload_n 0), 24), ([0], [])),
  (((.iload_n 1), 25), ([0], []))], [(((.iload_n 2), 26), ([0], [])),
  (((.invokevirtual 409), 27), ([9, 89, 3, 11, 0], [])),
  (((.astore 4), 30), ([0], [])),
  (((.aload_n 3), 32), ([0], [])),
  (((.iload_n 2), 33), ([0], [])),
  (((.aaload), 34), ([6], [])),
  (((.ifnonnull 17), 35), ([3, 29], [])),
  (((.aload 4), 38), ([0], [])),
  (((.ifnull 12), 40), ([3, 29], [])),
  (((.aload_n 0), 43), ([0], [])),
  (((.getfield 418), 44), ([5, 11, 15, 0], [])),
  (((.bipush 40), 47), ([0], [])),
  (((.if_icmp .lt 14), 49), ([3, 34], [])),
  (((.new 83), 52), ([11, 1], [false, false, false, false, false])),
  (((.dup), 55), ([12], [])),
  (((.ldc_w 421), 56), ([12], []))], [(((.invokespecial 87), 59), ([12], [])),
  (((.athrow), 62), ([12], [])),
  (((.aload_n 3), 63), ([0], [true, false, true, true, true])),
  (((.iload_n 2), 64), ([0], [])),
  (((.aload 4), 65), ([0], [])),
  (((.aastore), 67), ([6], [])),
  (((.aload_n 0), 68), ([0], [])),
  (((.dup), 69), ([0], [])),
  (((.getfield 418), 70), ([5, 11, 15, 0], [])),
  (((.iconst 1), 73), ([0], [])),
  (((.iadd), 74), ([1], [])),
  (((.putfield 418), 75), ([5, 11, 15, 0], [])),
  (((.aload 4), 78), ([0], [])),
  (((.dup), 80), ([0], [])),
  (((.getfield 135), 81), ([5, 0, 10, 0], [])),
  (((.iconst 1), 84), ([0], []))], [(((.iadd), 85), ([1], [])),
  (((.putfield 135), 86), ([5, 0, 10, 0], [])),
  (((.aload 4), 89), ([0], [])),
  (((.getfield 350), 91), ([5, 0, 11, 3], [])),
  (((.iload_n 2), 94), ([0], [])),
  (((.invokestatic 415), 95), ([9, 135, 1, 99, 1], [])),
  (((.dup2), 98), ([0], [])),
  (((.iaload), 99), ([6], [])),
  (((.iconst 1), 100), ([0], [])),
  (((.iadd), 101), ([1], [])),
  (((.iastore), 102), ([6], [])),
  (((.aload 4), 103), ([0], [])),
  (((.getfield 118), 105), ([5, 0, 0, 0], [])),
  (((.ireturn), 108), ([10], []))]]
-- 92: yX11_end
set_option maxRecDepth 100000 in
noncomputable def zcd_92 : List (List zOp) := [[(((.iload_n 1), 0), ([0], [])),
  (((.iconst 0), 1), ([0], [])),
  (((.iconst 3), 2), ([0], [])),
  (((.invokestatic 59), 3), ([9, 131, 3, 99, 1], [])),
  (((.iload_n 2), 6), ([0], [])),
  (((.iconst 0), 7), ([0], [])),
  (((.sipush 199), 8), ([0], [])),
  (((.invokestatic 59), 11), ([9, 131, 3, 99, 1], [])),
  (((.aload_n 0), 14), ([0], [])),
  (((.getfield 33), 15), ([5, 11, 6, 3], [])),
  (((.iload_n 1), 18), ([0], [])),
  (((.aaload), 19), ([6], [])),
  (((.getfield 413), 20), ([5, 8, 2, 3], [])),
  (((.astore_n 3), 23), ([0], [])),
  (((.aload_n 3), 24), ([0], [])),
  (((.iload_n 2), 25), ([0], []))], [(((.aaload), 26), ([6], [])),
  (((.astore 4), 27), ([0], [])),
  (((.aload 4), 29), ([0], [])),
  (((.ifnonnull 14), 31), ([3, 25], [])),
  (((.new 83), 34), ([11, 1], [])),
  (((.dup), 37), ([12], [])),
  (((.ldc_w 423), 38), ([12], [])),
  (((.invokespecial 87), 41), ([12], [])),
  (((.athrow), 44), ([12], [])),
  (((.aload_n 3), 45), ([0], [true, false, true, true, true])),
  (((.iload_n 2), 46), ([0], [])),
  (((.aconst_null), 47), ([0], [])),
  (((.aastore), 48), ([6], [])),
  (((.aload_n 0), 49), ([0], [])),
  (((.dup), 50), ([0], [])),
  (((.getfield 418), 51), ([5, 11, 15, 0], []))], [(((.iconst 1), 54), ([0], [])),
  (((.isub), 55), ([1], [])),
  (((.putfield 418), 56), ([5, 11, 15, 0], [])),
  (((.aload 4), 59), ([0], [])),
  (((.dup), 61), ([0], [])),
  (((.getfield 135), 62), ([5, 0, 10, 0], [])),
  (((.iconst 1), 65), ([0], [])),
  (((.isub), 66), ([1], [])),
  (((.putfield 135), 67), ([5, 0, 10, 0], [])),
  (((.aload 4), 70), ([0], [])),
  (((.getfield 350), 72), ([5, 0, 11, 3], [])),
  (((.iload_n 2), 75), ([0], [])),
  (((.invokestatic 415), 76), ([9, 135, 1, 99, 1], [])),
  (((.dup2), 79), ([0], [])),
  (((.iaload), 80), ([6], [])),
  (((.iconst 1), 81), ([0], []))], [(((.isub), 82), ([1], [])),
  (((.iastore), 83), ([6], [])),
  (((.aload 4), 84), ([0], [])),
  (((.getfield 118), 86), ([5, 0, 0, 0], [])),
  (((.ireturn), 89), ([10], []))]]
-- 93: yX11_wayOut
set_option maxRecDepth 100000 in
noncomputable def zcd_93 : List (List zOp) := [[(((.aload_n 0), 0), ([0], [])),
  (((.iload_n 1), 1), ([0], [])),
  (((.iload_n 2), 2), ([0], [])),
  (((.invokevirtual 402), 3), ([9, 132, 3, 11, 0], [])),
  (((.getfield 242), 6), ([5, 9, 0, 3], [])),
  (((.astore_n 3), 9), ([0], [])),
  (((.aload_n 3), 10), ([0], [])),
  (((.ifnonnull 5), 11), ([3, 10], [])),
  (((.iconst (-1)), 14), ([0], [])),
  (((.ireturn), 15), ([10], [])),
  (((.aload_n 3), 16), ([0], [true, true, false, true, false, false])),
  (((.getfield 118), 17), ([5, 0, 0, 0], [])),
  (((.iconst 1), 20), ([0], [])),
  (((.iadd), 21), ([1], [])),
  (((.istore 4), 22), ([0], [])),
  (((.iload 4), 24), ([0], [true, true, false, false, true, false]))], [(((.aload_n 0), 26), ([0], [])),
  (((.getfield 10), 27), ([5, 11, 0, 3], [])),
  (((.invokeinterface 77 1), 30), ([8, 2], [])),
  (((.if_icmp .ge 49), 35), ([3, 39], [])),
  (((.aload_n 0), 38), ([0], [])),
  (((.getfield 10), 39), ([5, 11, 0, 3], [])),
  (((.iload 4), 42), ([0], [])),
  (((.invokeinterface 127 2), 44), ([8, 3], [])),
  (((.checkcast 88), 49), ([7, 0], [])),
  (((.astore 5), 52), ([0], [])),
  (((.aload 5), 54), ([0], [])),
  (((.getfield 145), 56), ([5, 0, 1, 0], [])),
  (((.iload_n 1), 59), ([0], [])),
  (((.if_icmp .ne 18), 60), ([3, 37], [])),
  (((.aload_n 0), 63), ([0], [])),
  (((.aload 5), 64), ([0], []))], [(((.invokevirtual 138), 66), ([9, 45, 2, 11, 0], [])),
  (((.ifCond .ne 9), 69), ([3, 37], [])),
  (((.aload 5), 72), ([0], [])),
  (((.getfield 118), 74), ([5, 0, 0, 0], [])),
  (((.ireturn), 77), ([10], [])),
  (((.iinc 4 1), 78), ([0], [true, true, false, false, true, false])),
  (((.goto (-57)), 81), ([3, 15], [])),
  (((.iconst (-1)), 84), ([0], [false, false, false, false, false, false])),
  (((.ireturn), 85), ([10], []))]]
-- 94: yL_law
set_option maxRecDepth 100000 in
noncomputable def zcd_94 : List (List zOp) := []
-- 95: yL_law
set_option maxRecDepth 100000 in
noncomputable def zcd_95 : List (List zOp) := []
-- 96: yL_law
set_option maxRecDepth 100000 in
noncomputable def zcd_96 : List (List zOp) := []
-- 97: yL_law
set_option maxRecDepth 100000 in
noncomputable def zcd_97 : List (List zOp) := []
-- 98: yL_law
set_option maxRecDepth 100000 in
noncomputable def zcd_98 : List (List zOp) := []
-- 99: yL_law
set_option maxRecDepth 100000 in
noncomputable def zcd_99 : List (List zOp) := []
-- 100: yL_law
set_option maxRecDepth 100000 in
noncomputable def zcd_100 : List (List zOp) := []
-- 101: yX11_measure
set_option maxRecDepth 100000 in
noncomputable def zcd_101 : List (List zOp) := [[(((.aload_n 0), 0), ([0], [])),
  (((.iload_n 1), 1), ([0], [])),
  (((.iload_n 2), 2), ([0], [])),
  (((.invokevirtual 402), 3), ([9, 132, 3, 11, 0], [])),
  (((.astore 6), 6), ([0], [])),
  (((.iload 5), 8), ([0], [])),
  (((.iconst 0), 10), ([0], [])),
  (((.ldc_w 456), 11), ([0, 60000], [])),
  (((.invokestatic 59), 14), ([9, 131, 3, 99, 1], [])),
  (((.aload 6), 17), ([0], [])),
  (((.getfield 251), 19), ([5, 9, 1, 3], [])),
  (((.ifnull 21), 22), ([3, 19], [])),
  (((.aload 6), 25), ([0], [])),
  (((.getfield 242), 27), ([5, 9, 0, 3], [])),
  (((.ifnull 13), 30), ([3, 19], [])),
  (((.aload_n 0), 33), ([0], []))], [(((.getfield 457), 34), ([5, 11, 16, 0], [])),
  (((.sipush 600), 37), ([0], [])),
  (((.if_icmp .lt 14), 40), ([3, 24], [])),
  (((.new 83), 43), ([11, 1], [false, false, false, false, false, false, false])),
  (((.dup), 46), ([12], [])),
  (((.ldc_w 460), 47), ([12], [])),
  (((.invokespecial 87), 50), ([12], [])),
  (((.athrow), 53), ([12], [])),
  (((.aload_n 0), 54), ([0], [true, false, false, true, true, true, true])),
  (((.dup), 55), ([0], [])),
  (((.getfield 457), 56), ([5, 11, 16, 0], [])),
  (((.iconst 1), 59), ([0], [])),
  (((.iadd), 60), ([1], [])),
  (((.putfield 457), 61), ([5, 11, 16, 0], [])),
  (((.aload 6), 64), ([0], [])),
  (((.iload_n 3), 66), ([0], []))], [(((.iload 4), 67), ([0], [])),
  (((.iload 5), 69), ([0], [])),
  (((.invokevirtual 462), 71), ([9, 32, 4, 9, 0], [])),
  (((.ireturn), 74), ([10], []))]]
-- 102: yX11_capital
set_option maxRecDepth 100000 in
noncomputable def zcd_102 : List (List zOp) := [[(((.aload_n 0), 0), ([0], [])),
  (((.iload_n 1), 1), ([0], [])),
  (((.iload_n 2), 2), ([0], [])),
  (((.invokevirtual 402), 3), ([9, 132, 3, 11, 0], [])),
  (((.getfield 466), 6), ([5, 9, 4, 2], [])),
  (((.dreturn), 9), ([10], []))]]
-- 103: yX11_verdict
set_option maxRecDepth 100000 in
noncomputable def zcd_103 : List (List zOp) := [[(((.aload_n 0), 0), ([0], [])),
  (((.iload_n 1), 1), ([0], [])),
  (((.iload_n 2), 2), ([0], [])),
  (((.invokevirtual 402), 3), ([9, 132, 3, 11, 0], [])),
  (((.invokevirtual 298), 6), ([9, 34, 1, 9, 0], [])),
  (((.ireturn), 9), ([10], []))]]
-- 104: yX11_verdictByAll
set_option maxRecDepth 100000 in
noncomputable def zcd_104 : List (List zOp) := [[(((.aload_n 0), 0), ([0], [])),
  (((.iload_n 1), 1), ([0], [])),
  (((.iload_n 2), 2), ([0], [])),
  (((.invokevirtual 402), 3), ([9, 132, 3, 11, 0], [])),
  (((.invokevirtual 470), 6), ([9, 35, 1, 9, 0], [])),
  (((.ireturn), 9), ([10], []))]]
-- 105: yL_law
set_option maxRecDepth 100000 in
noncomputable def zcd_105 : List (List zOp) := []
-- 106: yX11_hold
set_option maxRecDepth 100000 in
noncomputable def zcd_106 : List (List zOp) := [[(((.iload_n 1), 0), ([0], [])),
  (((.iconst 0), 1), ([0], [])),
  (((.iconst 3), 2), ([0], [])),
  (((.invokestatic 59), 3), ([9, 131, 3, 99, 1], [])),
  (((.aload_n 0), 6), ([0], [])),
  (((.getfield 33), 7), ([5, 11, 6, 3], [])),
  (((.iload_n 1), 10), ([0], [])),
  (((.aaload), 11), ([6], [])),
  (((.astore_n 2), 12), ([0], [])),
  (((.aload_n 2), 13), ([0], [])),
  (((.aload_n 2), 14), ([0], [])),
  (((.getfield 310), 15), ([5, 8, 7, 1], [])),
  (((.ifCond .ne 7), 18), ([3, 15], [])),
  (((.iconst 1), 21), ([0], [])),
  (((.goto 4), 22), ([3, 16], [])),
  (((.iconst 0), 25), ([0], [false, false, true]))], [(((.putfield 310), 26), ([5, 8, 7, 1], [false, false, true])),
  (((.aload_n 2), 29), ([0], [])),
  (((.getfield 310), 30), ([5, 8, 7, 1], [])),
  (((.ireturn), 33), ([10], []))]]
-- 107: yL_law
set_option maxRecDepth 100000 in
noncomputable def zcd_107 : List (List zOp) := []
-- 108: yL_law
set_option maxRecDepth 100000 in
noncomputable def zcd_108 : List (List zOp) := []
-- 109: yX11_zone
set_option maxRecDepth 100000 in
noncomputable def zcd_109 : List (List zOp) := [[(((.iload_n 1), 0), ([0], [])),
  (((.iconst 0), 1), ([0], [])),
  (((.iconst 2), 2), ([0], [])),
  (((.invokestatic 59), 3), ([9, 131, 3, 99, 1], [])),
  (((.iload_n 2), 6), ([0], [])),
  (((.iconst 0), 7), ([0], [])),
  (((.iconst 2), 8), ([0], [])),
  (((.invokestatic 59), 9), ([9, 131, 3, 99, 1], [])),
  (((.aload_n 0), 12), ([0], [])),
  (((.getfield 43), 13), ([5, 11, 8, 3], [])),
  (((.iload_n 1), 16), ([0], [])),
  (((.dup2), 17), ([0], [])),
  (((.iaload), 18), ([6], [])),
  (((.iconst 1), 19), ([0], [])),
  (((.iload_n 2), 20), ([0], [])),
  (((.ishl), 21), ([1], []))], [(((.ixor), 22), ([1], [])),
  (((.iastore), 23), ([6], [])),
  (((.aload_n 0), 24), ([0], [])),
  (((.getfield 43), 25), ([5, 11, 8, 3], [])),
  (((.iload_n 1), 28), ([0], [])),
  (((.iaload), 29), ([6], [])),
  (((.iload_n 2), 30), ([0], [])),
  (((.invokestatic 66), 31), ([9, 133, 2, 99, 1], [])),
  (((.ireturn), 34), ([10], []))]]
-- 110: yX11_surge
set_option maxRecDepth 100000 in
noncomputable def zcd_110 : List (List zOp) := [[(((.iload_n 1), 0), ([0], [])),
  (((.iconst 0), 1), ([0], [])),
  (((.iconst 2), 2), ([0], [])),
  (((.invokestatic 59), 3), ([9, 131, 3, 99, 1], [])),
  (((.iload_n 2), 6), ([0], [])),
  (((.iconst 0), 7), ([0], [])),
  (((.bipush 8), 8), ([0], [])),
  (((.invokestatic 59), 10), ([9, 131, 3, 99, 1], [])),
  (((.aload_n 0), 13), ([0], [])),
  (((.getfield 47), 14), ([5, 11, 9, 3], [])),
  (((.iload_n 1), 17), ([0], [])),
  (((.iaload), 18), ([6], [])),
  (((.istore_n 3), 19), ([0], [])),
  (((.aload_n 0), 20), ([0], [])),
  (((.getfield 47), 21), ([5, 11, 9, 3], [])),
  (((.iload_n 1), 24), ([0], []))], [(((.iload_n 2), 25), ([0], [])),
  (((.iastore), 26), ([6], [])),
  (((.iload_n 3), 27), ([0], [])),
  (((.ireturn), 28), ([10], []))]]
-- 111: yX11_left
set_option maxRecDepth 100000 in
noncomputable def zcd_111 : List (List zOp) := [[(((.iload_n 1), 0), ([0], [])),
  (((.iconst 0), 1), ([0], [])),
  (((.iconst 2), 2), ([0], [])),
  (((.invokestatic 59), 3), ([9, 131, 3, 99, 1], [])),
  (((.aload_n 0), 6), ([0], [])),
  (((.iload_n 1), 7), ([0], [])),
  (((.invokevirtual 347), 8), ([9, 71, 2, 11, 0], [])),
  (((.aload_n 0), 11), ([0], [])),
  (((.iload_n 1), 12), ([0], [])),
  (((.invokevirtual 341), 13), ([9, 69, 2, 11, 0], [])),
  (((.isub), 16), ([1], [])),
  (((.ireturn), 17), ([10], []))]]
-- 112: yL_law
set_option maxRecDepth 100000 in
noncomputable def zcd_112 : List (List zOp) := []
-- 113: yL_law
set_option maxRecDepth 100000 in
noncomputable def zcd_113 : List (List zOp) := []
-- 114: yL_law
set_option maxRecDepth 100000 in
noncomputable def zcd_114 : List (List zOp) := []
-- 115: yL_law
set_option maxRecDepth 100000 in
noncomputable def zcd_115 : List (List zOp) := []
-- 116: yL_law
set_option maxRecDepth 100000 in
noncomputable def zcd_116 : List (List zOp) := []
-- 117: yL_law
set_option maxRecDepth 100000 in
noncomputable def zcd_117 : List (List zOp) := []
-- 118: yL_law
set_option maxRecDepth 100000 in
noncomputable def zcd_118 : List (List zOp) := []
-- 119: yL_law
set_option maxRecDepth 100000 in
noncomputable def zcd_119 : List (List zOp) := []
-- 120: yL_law
set_option maxRecDepth 100000 in
noncomputable def zcd_120 : List (List zOp) := []
-- 121: yL_law
set_option maxRecDepth 100000 in
noncomputable def zcd_121 : List (List zOp) := []
-- 122: yL_law
set_option maxRecDepth 100000 in
noncomputable def zcd_122 : List (List zOp) := []
-- 123: yL_law
set_option maxRecDepth 100000 in
noncomputable def zcd_123 : List (List zOp) := []
-- 124: yL_law
set_option maxRecDepth 100000 in
noncomputable def zcd_124 : List (List zOp) := []
-- 125: yL_law
set_option maxRecDepth 100000 in
noncomputable def zcd_125 : List (List zOp) := []
-- 126: yL_law
set_option maxRecDepth 100000 in
noncomputable def zcd_126 : List (List zOp) := []
-- 127: yL_law
set_option maxRecDepth 100000 in
noncomputable def zcd_127 : List (List zOp) := []
-- 128: yL_law
set_option maxRecDepth 100000 in
noncomputable def zcd_128 : List (List zOp) := []
-- 129: yL_law
set_option maxRecDepth 100000 in
noncomputable def zcd_129 : List (List zOp) := []
-- 130: yX11_checkNumber
set_option maxRecDepth 100000 in
noncomputable def zcd_130 : List (List zOp) := [[(((.iload_n 0), 0), ([0], [])),
  (((.ifCond .lt 8), 1), ([3, 5], [])),
  (((.iload_n 0), 4), ([0], [])),
  (((.iload_n 1), 5), ([0], [])),
  (((.if_icmp .lt 14), 6), ([3, 10], [])),
  (((.new 578), 9), ([11, 2], [false, false])),
  (((.dup), 12), ([12], [])),
  (((.ldc_w 580), 13), ([12], [])),
  (((.invokespecial 582), 16), ([12], [])),
  (((.athrow), 19), ([12], [])),
  (((.return_), 20), ([10], [false, false]))]]
-- 131: yX11_checkRange
set_option maxRecDepth 100000 in
noncomputable def zcd_131 : List (List zOp) := [[(((.iload_n 0), 0), ([0], [])),
  (((.iload_n 1), 1), ([0], [])),
  (((.if_icmp .lt 8), 2), ([3, 6], [])),
  (((.iload_n 0), 5), ([0], [])),
  (((.iload_n 2), 6), ([0], [])),
  (((.if_icmp .le 14), 7), ([3, 11], [])),
  (((.new 70), 10), ([11, 0], [false, false, false])),
  (((.dup), 13), ([12], [])),
  (((.ldc_w 583), 14), ([12], [])),
  (((.invokespecial 74), 17), ([12], [])),
  (((.athrow), 20), ([12], [])),
  (((.return_), 21), ([10], [false, false, false]))]]
-- 132: yX11_spotIn
set_option maxRecDepth 100000 in
noncomputable def zcd_132 : List (List zOp) := [[(((.iload_n 1), 0), ([0], [])),
  (((.iconst 0), 1), ([0], [])),
  (((.iconst 3), 2), ([0], [])),
  (((.invokestatic 59), 3), ([9, 131, 3, 99, 1], [])),
  (((.iload_n 2), 6), ([0], [])),
  (((.iconst 0), 7), ([0], [])),
  (((.iconst 2), 8), ([0], [])),
  (((.invokestatic 59), 9), ([9, 131, 3, 99, 1], [])),
  (((.aload_n 0), 12), ([0], [])),
  (((.getfield 33), 13), ([5, 11, 6, 3], [])),
  (((.iload_n 1), 16), ([0], [])),
  (((.aaload), 17), ([6], [])),
  (((.getfield 238), 18), ([5, 8, 0, 3], [])),
  (((.iload_n 2), 21), ([0], [])),
  (((.aaload), 22), ([6], [])),
  (((.areturn), 23), ([10], []))]]
-- 133: yX11_isIn
set_option maxRecDepth 100000 in
noncomputable def zcd_133 : List (List zOp) := [[(((.iload_n 0), 0), ([0], [])),
  (((.iconst 1), 1), ([0], [])),
  (((.iload_n 1), 2), ([0], [])),
  (((.ishl), 3), ([1], [])),
  (((.iand), 4), ([1], [])),
  (((.ifCond .eq 7), 5), ([3, 8], [])),
  (((.iconst 1), 8), ([0], [])),
  (((.goto 4), 9), ([3, 9], [])),
  (((.iconst 0), 12), ([0], [false, false])),
  (((.ireturn), 13), ([10], [false, false]))]]
-- 134: yX11_numberOf
set_option maxRecDepth 100000 in
noncomputable def zcd_134 : List (List zOp) := [[(((.aload_n 0), 0), ([0], [])),
  (((.ifnonnull 7), 1), ([3, 4], [])),
  (((.iconst (-1)), 4), ([0], [])),
  (((.goto 7), 5), ([3, 6], [])),
  (((.aload_n 0), 8), ([0], [true])),
  (((.getfield 118), 9), ([5, 0, 0, 0], [])),
  (((.ireturn), 12), ([10], [false]))]]
-- 135: yX11_ringOf
set_option maxRecDepth 100000 in
noncomputable def zcd_135 : List (List zOp) := [[(((.iload_n 0), 0), ([0], [])),
  (((.bipush 10), 1), ([0], [])),
  (((.irem), 3), ([1], [])),
  (((.istore_n 1), 4), ([0], [])),
  (((.iload_n 1), 5), ([0], [])),
  (((.ifCond .ne 5), 6), ([3, 8], [])),
  (((.iconst 0), 9), ([0], [])),
  (((.ireturn), 10), ([10], [])),
  (((.iload_n 1), 11), ([0], [false, true])),
  (((.iconst 3), 12), ([0], [])),
  (((.if_icmp .gt 7), 13), ([3, 13], [])),
  (((.iconst 1), 16), ([0], [])),
  (((.goto 4), 17), ([3, 14], [])),
  (((.iconst 2), 20), ([0], [false, false])),
  (((.ireturn), 21), ([10], [false, false]))]]
-- 136: yL_law
set_option maxRecDepth 100000 in
noncomputable def zcd_136 : List (List zOp) := []
-- 137: yL_law
set_option maxRecDepth 100000 in
noncomputable def zcd_137 : List (List zOp) := []
-- 138: yL_law
set_option maxRecDepth 100000 in
noncomputable def zcd_138 : List (List zOp) := []
-- 139: yL_law
set_option maxRecDepth 100000 in
noncomputable def zcd_139 : List (List zOp) := []
-- 140: yL_law
set_option maxRecDepth 100000 in
noncomputable def zcd_140 : List (List zOp) := []
-- 141: yL_law
set_option maxRecDepth 100000 in
noncomputable def zcd_141 : List (List zOp) := []
-- 142: yL_law
set_option maxRecDepth 100000 in
noncomputable def zcd_142 : List (List zOp) := []
-- 143: yL_law
set_option maxRecDepth 100000 in
noncomputable def zcd_143 : List (List zOp) := []
-- 144: yL_law
set_option maxRecDepth 100000 in
noncomputable def zcd_144 : List (List zOp) := []
-- 145: yL_law
set_option maxRecDepth 100000 in
noncomputable def zcd_145 : List (List zOp) := []
-- 146: yL_law
set_option maxRecDepth 100000 in
noncomputable def zcd_146 : List (List zOp) := []
-- 147: yL_law
set_option maxRecDepth 100000 in
noncomputable def zcd_147 : List (List zOp) := []
-- 148: yL_law
set_option maxRecDepth 100000 in
noncomputable def zcd_148 : List (List zOp) := []
-- 149: yL_law
set_option maxRecDepth 100000 in
noncomputable def zcd_149 : List (List zOp) := []
-- 150: yL_law
set_option maxRecDepth 100000 in
noncomputable def zcd_150 : List (List zOp) := []
-- 151: yL_law
set_option maxRecDepth 100000 in
noncomputable def zcd_151 : List (List zOp) := []
-- 152: yL_law
set_option maxRecDepth 100000 in
noncomputable def zcd_152 : List (List zOp) := []
-- 153: yL_law
set_option maxRecDepth 100000 in
noncomputable def zcd_153 : List (List zOp) := []
-- 154: yL_law
set_option maxRecDepth 100000 in
noncomputable def zcd_154 : List (List zOp) := []
-- 155: yL_law
set_option maxRecDepth 100000 in
noncomputable def zcd_155 : List (List zOp) := []
-- 156: yL_law
set_option maxRecDepth 100000 in
noncomputable def zcd_156 : List (List zOp) := []
-- 157: yL_law
set_option maxRecDepth 100000 in
noncomputable def zcd_157 : List (List zOp) := []
-- 158: yL_law
set_option maxRecDepth 100000 in
noncomputable def zcd_158 : List (List zOp) := []
-- 159: yL_law
set_option maxRecDepth 100000 in
noncomputable def zcd_159 : List (List zOp) := []
-- 160: yL_law
set_option maxRecDepth 100000 in
noncomputable def zcd_160 : List (List zOp) := []
-- 161: yL_law
set_option maxRecDepth 100000 in
noncomputable def zcd_161 : List (List zOp) := []
-- 162: yL_law
set_option maxRecDepth 100000 in
noncomputable def zcd_162 : List (List zOp) := []
-- 163: yL_law
set_option maxRecDepth 100000 in
noncomputable def zcd_163 : List (List zOp) := []
-- 164: yL_law
set_option maxRecDepth 100000 in
noncomputable def zcd_164 : List (List zOp) := []
-- 165: yL_law
set_option maxRecDepth 100000 in
noncomputable def zcd_165 : List (List zOp) := []
-- 166: yL_law
set_option maxRecDepth 100000 in
noncomputable def zcd_166 : List (List zOp) := []
-- 167: yL_law
set_option maxRecDepth 100000 in
noncomputable def zcd_167 : List (List zOp) := []
-- 168: yL_law
set_option maxRecDepth 100000 in
noncomputable def zcd_168 : List (List zOp) := []
-- 169: yL_law
set_option maxRecDepth 100000 in
noncomputable def zcd_169 : List (List zOp) := []
-- 170: yL_law
set_option maxRecDepth 100000 in
noncomputable def zcd_170 : List (List zOp) := []
-- 171: yL_law
set_option maxRecDepth 100000 in
noncomputable def zcd_171 : List (List zOp) := []
-- 172: yL_law
set_option maxRecDepth 100000 in
noncomputable def zcd_172 : List (List zOp) := []
-- 173: yL_law
set_option maxRecDepth 100000 in
noncomputable def zcd_173 : List (List zOp) := []
-- 174: yL_law
set_option maxRecDepth 100000 in
noncomputable def zcd_174 : List (List zOp) := []
-- 175: yL_law
set_option maxRecDepth 100000 in
noncomputable def zcd_175 : List (List zOp) := []
-- 176: yL_law
set_option maxRecDepth 100000 in
noncomputable def zcd_176 : List (List zOp) := []
-- 177: yL_law
set_option maxRecDepth 100000 in
noncomputable def zcd_177 : List (List zOp) := []
-- 178: yL_law
set_option maxRecDepth 100000 in
noncomputable def zcd_178 : List (List zOp) := []
-- 179: yL_law
set_option maxRecDepth 100000 in
noncomputable def zcd_179 : List (List zOp) := []
-- 180: yL_law
set_option maxRecDepth 100000 in
noncomputable def zcd_180 : List (List zOp) := []
-- 181: yL_law
set_option maxRecDepth 100000 in
noncomputable def zcd_181 : List (List zOp) := []
-- 182: yL_law
set_option maxRecDepth 100000 in
noncomputable def zcd_182 : List (List zOp) := []
-- 183: yL_law
set_option maxRecDepth 100000 in
noncomputable def zcd_183 : List (List zOp) := []
-- 184: yL_law
set_option maxRecDepth 100000 in
noncomputable def zcd_184 : List (List zOp) := []
-- 185: yL_law
set_option maxRecDepth 100000 in
noncomputable def zcd_185 : List (List zOp) := []
-- 186: yL_law
set_option maxRecDepth 100000 in
noncomputable def zcd_186 : List (List zOp) := []
-- 187: yL_law
set_option maxRecDepth 100000 in
noncomputable def zcd_187 : List (List zOp) := []
-- 188: yL_law
set_option maxRecDepth 100000 in
noncomputable def zcd_188 : List (List zOp) := []
-- 189: yL_law
set_option maxRecDepth 100000 in
noncomputable def zcd_189 : List (List zOp) := []
-- 190: yL_law
set_option maxRecDepth 100000 in
noncomputable def zcd_190 : List (List zOp) := []
-- 191: yL_law
set_option maxRecDepth 100000 in
noncomputable def zcd_191 : List (List zOp) := []
-- 192: yL_law
set_option maxRecDepth 100000 in
noncomputable def zcd_192 : List (List zOp) := []
-- 193: yL_law
set_option maxRecDepth 100000 in
noncomputable def zcd_193 : List (List zOp) := []
-- 194: yL_law
set_option maxRecDepth 100000 in
noncomputable def zcd_194 : List (List zOp) := []
-- 195: yL_law
set_option maxRecDepth 100000 in
noncomputable def zcd_195 : List (List zOp) := []
-- 196: yL_law
set_option maxRecDepth 100000 in
noncomputable def zcd_196 : List (List zOp) := []
-- 197: yL_law
set_option maxRecDepth 100000 in
noncomputable def zcd_197 : List (List zOp) := []
-- 198: yL_law
set_option maxRecDepth 100000 in
noncomputable def zcd_198 : List (List zOp) := []
-- 199: yL_law
set_option maxRecDepth 100000 in
noncomputable def zcd_199 : List (List zOp) := []
-- 200: yL_law
set_option maxRecDepth 100000 in
noncomputable def zcd_200 : List (List zOp) := []
-- 201: yL_law
set_option maxRecDepth 100000 in
noncomputable def zcd_201 : List (List zOp) := []
-- 202: yL_law
set_option maxRecDepth 100000 in
noncomputable def zcd_202 : List (List zOp) := []
-- 203: yL_law
set_option maxRecDepth 100000 in
noncomputable def zcd_203 : List (List zOp) := []
-- 204: yL_law
set_option maxRecDepth 100000 in
noncomputable def zcd_204 : List (List zOp) := []
-- 205: yL_law
set_option maxRecDepth 100000 in
noncomputable def zcd_205 : List (List zOp) := []
-- 206: yL_law
set_option maxRecDepth 100000 in
noncomputable def zcd_206 : List (List zOp) := []
-- 207: yL_law
set_option maxRecDepth 100000 in
noncomputable def zcd_207 : List (List zOp) := []
-- 208: yL_law
set_option maxRecDepth 100000 in
noncomputable def zcd_208 : List (List zOp) := []
-- 209: yL_law
set_option maxRecDepth 100000 in
noncomputable def zcd_209 : List (List zOp) := []
-- 210: yL_law
set_option maxRecDepth 100000 in
noncomputable def zcd_210 : List (List zOp) := []
-- 211: yL_law
set_option maxRecDepth 100000 in
noncomputable def zcd_211 : List (List zOp) := []
-- 212: yL_law
set_option maxRecDepth 100000 in
noncomputable def zcd_212 : List (List zOp) := []
-- 213: yL_law
set_option maxRecDepth 100000 in
noncomputable def zcd_213 : List (List zOp) := []
-- 214: yL_law
set_option maxRecDepth 100000 in
noncomputable def zcd_214 : List (List zOp) := []
-- 215: yL_law
set_option maxRecDepth 100000 in
noncomputable def zcd_215 : List (List zOp) := []
-- 216: yL_law
set_option maxRecDepth 100000 in
noncomputable def zcd_216 : List (List zOp) := []
-- 217: yL_law
set_option maxRecDepth 100000 in
noncomputable def zcd_217 : List (List zOp) := []
-- 218: yL_law
set_option maxRecDepth 100000 in
noncomputable def zcd_218 : List (List zOp) := []
-- 219: yL_law
set_option maxRecDepth 100000 in
noncomputable def zcd_219 : List (List zOp) := []
-- 220: yL_law
set_option maxRecDepth 100000 in
noncomputable def zcd_220 : List (List zOp) := []
-- 221: yL_law
set_option maxRecDepth 100000 in
noncomputable def zcd_221 : List (List zOp) := []
-- 222: yL_law
set_option maxRecDepth 100000 in
noncomputable def zcd_222 : List (List zOp) := []
-- 223: yL_law
set_option maxRecDepth 100000 in
noncomputable def zcd_223 : List (List zOp) := []
-- 224: yL_law
set_option maxRecDepth 100000 in
noncomputable def zcd_224 : List (List zOp) := []
-- 225: yL_law
set_option maxRecDepth 100000 in
noncomputable def zcd_225 : List (List zOp) := []
-- 226: yL_law
set_option maxRecDepth 100000 in
noncomputable def zcd_226 : List (List zOp) := []
-- 227: yL_law
set_option maxRecDepth 100000 in
noncomputable def zcd_227 : List (List zOp) := []
-- 228: yL_law
set_option maxRecDepth 100000 in
noncomputable def zcd_228 : List (List zOp) := []
-- 229: yL_law
set_option maxRecDepth 100000 in
noncomputable def zcd_229 : List (List zOp) := []
-- 230: yL_law
set_option maxRecDepth 100000 in
noncomputable def zcd_230 : List (List zOp) := []
-- 231: yL_law
set_option maxRecDepth 100000 in
noncomputable def zcd_231 : List (List zOp) := []
-- 232: yL_law
set_option maxRecDepth 100000 in
noncomputable def zcd_232 : List (List zOp) := []
-- 233: yL_law
set_option maxRecDepth 100000 in
noncomputable def zcd_233 : List (List zOp) := []
-- 234: yL_law
set_option maxRecDepth 100000 in
noncomputable def zcd_234 : List (List zOp) := []
-- 235: yL_law
set_option maxRecDepth 100000 in
noncomputable def zcd_235 : List (List zOp) := []
-- 236: yL_law
set_option maxRecDepth 100000 in
noncomputable def zcd_236 : List (List zOp) := []
-- 237: yL_law
set_option maxRecDepth 100000 in
noncomputable def zcd_237 : List (List zOp) := []
-- 238: yL_law
set_option maxRecDepth 100000 in
noncomputable def zcd_238 : List (List zOp) := []
-- 239: yL_law
set_option maxRecDepth 100000 in
noncomputable def zcd_239 : List (List zOp) := []
-- 240: yL_law
set_option maxRecDepth 100000 in
noncomputable def zcd_240 : List (List zOp) := []
-- 241: yL_cell
set_option maxRecDepth 100000 in
noncomputable def zcd_241 : List (List zOp) := [[(((.iload_n 1), 0), ([0], [])),
  (((.aload_n 0), 1), ([0], [])),
  (((.arraylength), 2), ([6], [])),
  (((.if_icmp .ge 9), 3), ([3, 8], [])),
  (((.aload_n 0), 6), ([0], [])),
  (((.iload_n 1), 7), ([0], [])),
  (((.iaload), 8), ([6], [])),
  (((.goto 15), 9), ([3, 17], [])),
  (((.sipush 7919), 12), ([0], [false, true])),
  (((.iload_n 1), 15), ([0], [])),
  (((.iconst 3), 16), ([0], [])),
  (((.iadd), 17), ([1], [])),
  (((.imul), 18), ([1], [])),
  (((.iload_n 1), 19), ([0], [])),
  (((.bipush 11), 20), ([0], [])),
  (((.iadd), 22), ([1], []))], [(((.imul), 23), ([1], [])),
  (((.ireturn), 24), ([10], [false, false]))]]
-- 242: yL_low
set_option maxRecDepth 100000 in
noncomputable def zcd_242 : List (List zOp) := [[(((.iload_n 0), 0), ([0], [])),
  (((.ldc 7), 1), ([0, 2147483647], [])),
  (((.iand), 3), ([1], [])),
  (((.iload_n 1), 4), ([0], [])),
  (((.irem), 5), ([1], [])),
  (((.ireturn), 6), ([10], []))]]
-- 243: yL_isRing
set_option maxRecDepth 100000 in
noncomputable def zcd_243 : List (List zOp) := [[(((.aload_n 0), 0), ([0], [])),
  (((.iload_n 1), 1), ([0], [])),
  (((.iload_n 2), 2), ([0], [])),
  (((.invokevirtual 8), 3), ([9, 85, 3, 11, 0], [])),
  (((.istore_n 3), 6), ([0], [])),
  (((.aload_n 0), 7), ([0], [])),
  (((.iload_n 1), 8), ([0], [])),
  (((.iload_n 2), 9), ([0], [])),
  (((.invokevirtual 14), 10), ([9, 86, 3, 11, 0], [])),
  (((.istore 4), 13), ([0], [])),
  (((.aload_n 0), 15), ([0], [])),
  (((.iload_n 1), 16), ([0], [])),
  (((.iload_n 2), 17), ([0], [])),
  (((.invokevirtual 17), 18), ([9, 87, 3, 11, 0], [])),
  (((.istore 5), 21), ([0], [])),
  (((.iload_n 3), 23), ([0], []))], [(((.ifCond .lt 11), 24), ([3, 21], [])),
  (((.aload_n 0), 27), ([0], [])),
  (((.iload_n 3), 28), ([0], [])),
  (((.invokevirtual 20), 29), ([9, 43, 2, 11, 0], [])),
  (((.ifCond .eq 51), 32), ([3, 43], [])),
  (((.iload 4), 35), ([0], [true, true, true, true, true, true, false, false])),
  (((.ifCond .lt 12), 37), ([3, 27], [])),
  (((.aload_n 0), 40), ([0], [])),
  (((.iload 4), 41), ([0], [])),
  (((.invokevirtual 20), 43), ([9, 43, 2, 11, 0], [])),
  (((.ifCond .eq 37), 46), ([3, 43], [])),
  (((.iload 5), 49), ([0], [true, true, true, true, true, true, false, false])),
  (((.ifCond .le 7), 51), ([3, 31], [])),
  (((.iconst 1), 54), ([0], [])),
  (((.goto 4), 55), ([3, 32], [])),
  (((.iconst 0), 58), ([0], [true, true, true, true, true, true, false, false]))], [(((.iload 4), 59), ([0], [true, true, true, true, true, true, false, false])),
  (((.ifCond .lt 7), 61), ([3, 36], [])),
  (((.iconst 1), 64), ([0], [])),
  (((.goto 4), 65), ([3, 37], [])),
  (((.iconst 0), 68), ([0], [true, true, true, true, true, true, false, false])),
  (((.if_icmp .ne 14), 69), ([3, 43], [true, true, true, true, true, true, false, false])),
  (((.iload 5), 72), ([0], [])),
  (((.bipush 100), 74), ([0], [])),
  (((.if_icmp .gt 7), 76), ([3, 43], [])),
  (((.iconst 1), 79), ([0], [])),
  (((.goto 4), 80), ([3, 44], [])),
  (((.iconst 0), 83), ([0], [true, true, true, true, true, false, false, false])),
  (((.istore 6), 84), ([0], [true, true, true, true, true, false, false, false])),
  (((.iload 6), 86), ([0], [])),
  (((.ifCond .eq 43), 88), ([3, 70], [])),
  (((.iload_n 3), 91), ([0], []))], [(((.ifCond .lt 9), 92), ([3, 52], [])),
  (((.iload_n 3), 95), ([0], [])),
  (((.iload 4), 96), ([0], [])),
  (((.if_icmp .eq 33), 98), ([3, 70], [])),
  (((.aload_n 0), 101), ([0], [true, true, true, true, false, false, false, false])),
  (((.iload_n 1), 102), ([0], [])),
  (((.iload_n 2), 103), ([0], [])),
  (((.invokevirtual 24), 104), ([9, 103, 3, 11, 0], [])),
  (((.aload_n 0), 107), ([0], [])),
  (((.iload_n 1), 108), ([0], [])),
  (((.iload_n 2), 109), ([0], [])),
  (((.invokevirtual 27), 110), ([9, 104, 3, 11, 0], [])),
  (((.if_icmp .ne 18), 113), ([3, 70], [])),
  (((.aload_n 0), 116), ([0], [])),
  (((.iload_n 1), 117), ([0], [])),
  (((.iload_n 2), 118), ([0], []))], [(((.invokevirtual 30), 119), ([9, 102, 3, 11, 0], [])),
  (((.dconst 0), 122), ([0], [])),
  (((.dcmp .l), 123), ([2], [])),
  (((.ifCond .le 7), 124), ([3, 70], [])),
  (((.iconst 1), 127), ([0], [])),
  (((.goto 4), 128), ([3, 71], [])),
  (((.iconst 0), 131), ([0], [true, true, true, true, false, false, false, false])),
  (((.istore 6), 132), ([0], [true, true, true, true, false, false, false, false])),
  (((.aload_n 0), 134), ([0], [])),
  (((.iload_n 1), 135), ([0], [])),
  (((.iload_n 2), 136), ([0], [])),
  (((.invokevirtual 34), 137), ([9, 93, 3, 11, 0], [])),
  (((.istore 7), 140), ([0], [])),
  (((.iload 6), 142), ([0], [])),
  (((.ifCond .eq 27), 144), ([3, 90], [])),
  (((.iload 7), 147), ([0], []))], [(((.ifCond .lt 18), 149), ([3, 88], [])),
  (((.iload 7), 152), ([0], [])),
  (((.iload_n 3), 154), ([0], [])),
  (((.if_icmp .le 16), 155), ([3, 90], [])),
  (((.aload_n 0), 158), ([0], [])),
  (((.iload 7), 159), ([0], [])),
  (((.invokevirtual 37), 161), ([9, 44, 2, 11, 0], [])),
  (((.ifCond .ne 7), 164), ([3, 90], [])),
  (((.iconst 1), 167), ([0], [false, false, false, false, false, false, false, false])),
  (((.goto 4), 168), ([3, 91], [])),
  (((.iconst 0), 171), ([0], [false, false, false, false, false, false, false, false])),
  (((.ireturn), 172), ([10], [false, false, false, false, false, false, false, false]))]]
-- 244: yL_law
set_option maxRecDepth 100000 in
noncomputable def zcd_244 : List (List zOp) := []
-- 245: yL_law
set_option maxRecDepth 100000 in
noncomputable def zcd_245 : List (List zOp) := []
-- 246: yL_law
set_option maxRecDepth 100000 in
noncomputable def zcd_246 : List (List zOp) := []
-- 247: yL_law
set_option maxRecDepth 100000 in
noncomputable def zcd_247 : List (List zOp) := []
-- 248: yL_law
set_option maxRecDepth 100000 in
noncomputable def zcd_248 : List (List zOp) := []
-- 249: yL_law
set_option maxRecDepth 100000 in
noncomputable def zcd_249 : List (List zOp) := []
-- 250: yL_law
set_option maxRecDepth 100000 in
noncomputable def zcd_250 : List (List zOp) := []
-- 251: yL_law
set_option maxRecDepth 100000 in
noncomputable def zcd_251 : List (List zOp) := []
-- 252: yL_law
set_option maxRecDepth 100000 in
noncomputable def zcd_252 : List (List zOp) := []
-- 253: yL_law
set_option maxRecDepth 100000 in
noncomputable def zcd_253 : List (List zOp) := []
-- 254: yL_law
set_option maxRecDepth 100000 in
noncomputable def zcd_254 : List (List zOp) := []
-- 255: yL_law
set_option maxRecDepth 100000 in
noncomputable def zcd_255 : List (List zOp) := []
-- 256: yL_law
set_option maxRecDepth 100000 in
noncomputable def zcd_256 : List (List zOp) := []
-- 257: yL_law
set_option maxRecDepth 100000 in
noncomputable def zcd_257 : List (List zOp) := []
-- 258: yL_law
set_option maxRecDepth 100000 in
noncomputable def zcd_258 : List (List zOp) := []
-- 259: yL_law
set_option maxRecDepth 100000 in
noncomputable def zcd_259 : List (List zOp) := []
-- 260: yL_law
set_option maxRecDepth 100000 in
noncomputable def zcd_260 : List (List zOp) := []
-- 261: yL_law
set_option maxRecDepth 100000 in
noncomputable def zcd_261 : List (List zOp) := []
-- 262: yL_law
set_option maxRecDepth 100000 in
noncomputable def zcd_262 : List (List zOp) := []
-- 263: yL_law
set_option maxRecDepth 100000 in
noncomputable def zcd_263 : List (List zOp) := []
-- 264: yL_law
set_option maxRecDepth 100000 in
noncomputable def zcd_264 : List (List zOp) := []
-- 265: yL_law
set_option maxRecDepth 100000 in
noncomputable def zcd_265 : List (List zOp) := []
-- 266: yL_law
set_option maxRecDepth 100000 in
noncomputable def zcd_266 : List (List zOp) := []
-- 267: yL_law
set_option maxRecDepth 100000 in
noncomputable def zcd_267 : List (List zOp) := []
-- 268: yL_law
set_option maxRecDepth 100000 in
noncomputable def zcd_268 : List (List zOp) := []
-- 269: yL_law
set_option maxRecDepth 100000 in
noncomputable def zcd_269 : List (List zOp) := []
-- 270: yL_law
set_option maxRecDepth 100000 in
noncomputable def zcd_270 : List (List zOp) := []
-- 271: yL_law
set_option maxRecDepth 100000 in
noncomputable def zcd_271 : List (List zOp) := []
-- 272: yL_law
set_option maxRecDepth 100000 in
noncomputable def zcd_272 : List (List zOp) := []
-- 273: yL_law
set_option maxRecDepth 100000 in
noncomputable def zcd_273 : List (List zOp) := []
-- 274: yL_law
set_option maxRecDepth 100000 in
noncomputable def zcd_274 : List (List zOp) := []
-- 275: yL_law
set_option maxRecDepth 100000 in
noncomputable def zcd_275 : List (List zOp) := []
-- 276: yL_law
set_option maxRecDepth 100000 in
noncomputable def zcd_276 : List (List zOp) := []
-- 277: yL_law
set_option maxRecDepth 100000 in
noncomputable def zcd_277 : List (List zOp) := []
-- 278: yL_law
set_option maxRecDepth 100000 in
noncomputable def zcd_278 : List (List zOp) := []
-- 279: yL_law
set_option maxRecDepth 100000 in
noncomputable def zcd_279 : List (List zOp) := []
-- 280: yL_law
set_option maxRecDepth 100000 in
noncomputable def zcd_280 : List (List zOp) := []
-- 281: yL_law
set_option maxRecDepth 100000 in
noncomputable def zcd_281 : List (List zOp) := []
-- 282: yL_law
set_option maxRecDepth 100000 in
noncomputable def zcd_282 : List (List zOp) := []
-- 283: yL_law
set_option maxRecDepth 100000 in
noncomputable def zcd_283 : List (List zOp) := []
-- 284: yL_law
set_option maxRecDepth 100000 in
noncomputable def zcd_284 : List (List zOp) := []
-- 285: yL_law
set_option maxRecDepth 100000 in
noncomputable def zcd_285 : List (List zOp) := []
-- 286: yL_law
set_option maxRecDepth 100000 in
noncomputable def zcd_286 : List (List zOp) := []
-- 287: yL_law
set_option maxRecDepth 100000 in
noncomputable def zcd_287 : List (List zOp) := []
-- 288: yL_law
set_option maxRecDepth 100000 in
noncomputable def zcd_288 : List (List zOp) := []
-- 289: yL_law
set_option maxRecDepth 100000 in
noncomputable def zcd_289 : List (List zOp) := []
-- 290: yL_law
set_option maxRecDepth 100000 in
noncomputable def zcd_290 : List (List zOp) := []
-- 291: yL_law
set_option maxRecDepth 100000 in
noncomputable def zcd_291 : List (List zOp) := [[(((.new 9), 0), ([7, 12], [])),
  (((.dup), 3), ([0], [])),
  (((.invokespecial 41), 4), ([9, 39, 1, 11, 2], [])),
  (((.astore_n 1), 7), ([0], [])),
  (((.iconst 0), 8), ([0], [])),
  (((.istore_n 2), 9), ([0], [])),
  (((.iconst 0), 10), ([0], [])),
  (((.istore_n 3), 11), ([0], [])),
  (((.iconst 0), 12), ([0], [])),
  (((.istore 4), 13), ([0], [])),
  (((.iconst 0), 15), ([0], [])),
  (((.istore 5), 16), ([0], [])),
  (((.iconst 0), 18), ([0], [])),
  (((.istore 6), 19), ([0], [])),
  (((.iconst 0), 21), ([0], [])),
  (((.istore 7), 22), ([0], []))], [(((.iconst 0), 24), ([0], [])),
  (((.istore 8), 25), ([0], [])),
  (((.iconst 0), 27), ([0], [])),
  (((.istore 9), 28), ([0], [])),
  (((.iload 9), 30), ([0], [true, true, true, true, true, true, true, true, true, true, false, false, false, false, false, false, false, false, false])),
  (((.bipush 60), 32), ([0], [])),
  (((.if_icmp .ge 1178), 34), ([3, 623], [])),
  (((.aload_n 0), 37), ([0], [])),
  (((.iconst 2), 38), ([0], [])),
  (((.iload 9), 39), ([0], [])),
  (((.imul), 41), ([1], [])),
  (((.invokestatic 42), 42), ([9, 241, 2, 99, 1], [])),
  (((.istore 10), 45), ([0], [])),
  (((.aload_n 0), 47), ([0], [])),
  (((.iconst 2), 48), ([0], [])),
  (((.iload 9), 49), ([0], []))], [(((.imul), 51), ([1], [])),
  (((.iconst 1), 52), ([0], [])),
  (((.iadd), 53), ([1], [])),
  (((.invokestatic 42), 54), ([9, 241, 2, 99, 1], [])),
  (((.istore 11), 57), ([0], [])),
  (((.iload 10), 59), ([0], [])),
  (((.bipush 20), 61), ([0], [])),
  (((.invokestatic 48), 63), ([9, 242, 2, 99, 1], [])),
  (((.istore 12), 66), ([0], [])),
  (((.iload 11), 68), ([0], [])),
  (((.iconst 2), 70), ([0], [])),
  (((.invokestatic 48), 71), ([9, 242, 2, 99, 1], [])),
  (((.istore 13), 74), ([0], [])),
  (((.iload 11), 76), ([0], [])),
  (((.iconst 1), 78), ([0], [])),
  (((.ishr), 79), ([1], []))], [(((.iconst 3), 80), ([0], [])),
  (((.invokestatic 48), 81), ([9, 242, 2, 99, 1], [])),
  (((.istore 14), 84), ([0], [])),
  (((.iconst 1), 86), ([0], [])),
  (((.istore 15), 87), ([0], [])),
  (((.iload 4), 89), ([0], [])),
  (((.iconst 3), 91), ([0], [])),
  (((.if_icmp .ge 116), 92), ([3, 117], [])),
  (((.aload_n 1), 95), ([0], [])),
  (((.invokevirtual 51), 96), ([9, 49, 1, 11, 0], [])),
  (((.pop), 99), ([0], [])),
  (((.iconst 1), 100), ([0], [])),
  (((.iload 11), 101), ([0], [])),
  (((.iconst 5), 103), ([0], [])),
  (((.invokestatic 48), 104), ([9, 242, 2, 99, 1], [])),
  (((.iadd), 107), ([1], []))], [(((.istore 16), 108), ([0], [])),
  (((.iconst 0), 110), ([0], [])),
  (((.istore 17), 111), ([0], [])),
  (((.iload 17), 113), ([0], [true, true, true, true, true, true, true, true, true, true, true, true, false, false, false, true, true, true, false])),
  (((.iload 16), 115), ([0], [])),
  (((.if_icmp .ge 85), 117), ([3, 115], [])),
  (((.iload 10), 120), ([0], [])),
  (((.iconst 2), 122), ([0], [])),
  (((.iload 17), 123), ([0], [])),
  (((.imul), 125), ([1], [])),
  (((.ishr), 126), ([1], [])),
  (((.iconst 5), 127), ([0], [])),
  (((.invokestatic 48), 128), ([9, 242, 2, 99, 1], [])),
  (((.istore 18), 131), ([0], [])),
  (((.aload_n 1), 133), ([0], [])),
  (((.iload 4), 134), ([0], []))], [(((.iload 18), 136), ([0], [])),
  (((.iconst 3), 138), ([0], [])),
  (((.if_icmp .ne 8), 139), ([3, 85], [])),
  (((.bipush 6), 142), ([0], [])),
  (((.goto 5), 144), ([3, 86], [])),
  (((.iload 18), 147), ([0], [true, true, true, true, true, true, true, true, true, true, true, true, false, false, false, true, true, true, true])),
  (((.iload 18), 149), ([0], [true, true, true, true, true, true, true, true, true, true, true, true, false, false, false, true, true, true, true])),
  (((.iconst 1), 151), ([0], [])),
  (((.if_icmp .ne 15), 152), ([3, 95], [])),
  (((.iload 11), 155), ([0], [])),
  (((.iload 17), 157), ([0], [])),
  (((.ishr), 159), ([1], [])),
  (((.iconst 4), 160), ([0], [])),
  (((.invokestatic 48), 161), ([9, 242, 2, 99, 1], [])),
  (((.goto 14), 164), ([3, 102], [])),
  (((.iload 11), 167), ([0], [true, true, true, true, true, true, true, true, true, true, true, true, false, false, false, true, true, true, false]))], [(((.iload 17), 169), ([0], [])),
  (((.iconst 4), 171), ([0], [])),
  (((.iadd), 172), ([1], [])),
  (((.ishr), 173), ([1], [])),
  (((.iconst 3), 174), ([0], [])),
  (((.invokestatic 48), 175), ([9, 242, 2, 99, 1], [])),
  (((.iconst 1), 178), ([0], [true, true, true, true, true, true, true, true, true, true, true, true, false, false, false, true, true, true, false])),
  (((.iload 10), 179), ([0], [])),
  (((.iconst 3), 181), ([0], [])),
  (((.iload 17), 182), ([0], [])),
  (((.imul), 184), ([1], [])),
  (((.ishr), 185), ([1], [])),
  (((.bipush 100), 186), ([0], [])),
  (((.invokestatic 48), 188), ([9, 242, 2, 99, 1], [])),
  (((.iadd), 191), ([1], [])),
  (((.invokevirtual 55), 192), ([9, 50, 5, 11, 0], []))], [(((.pop), 195), ([0], [])),
  (((.iinc 17 1), 196), ([0], [])),
  (((.goto (-86)), 199), ([3, 67], [])),
  (((.iinc 4 1), 202), ([0], [true, true, true, true, true, true, true, true, true, true, false, true, false, false, false, true, false, false, false])),
  (((.goto 948), 205), ([3, 594], [])),
  (((.iload_n 2), 208), ([0], [true, true, true, true, true, true, true, true, true, true, false, true, true, true, true, true, false, false, false])),
  (((.iconst 3), 209), ([0], [])),
  (((.if_icmp .lt 9), 210), ([3, 123], [])),
  (((.iload 12), 213), ([0], [])),
  (((.iconst 3), 215), ([0], [])),
  (((.if_icmp .ge 166), 216), ([3, 211], [])),
  (((.iload_n 2), 219), ([0], [true, true, true, true, true, true, true, true, true, true, false, true, false, true, false, true, false, false, false])),
  (((.bipush 30), 220), ([0], [])),
  (((.if_icmp .ge 931), 222), ([3, 594], [])),
  (((.iconst 1), 225), ([0], [])),
  (((.iload 11), 226), ([0], []))], [(((.iconst 4), 228), ([0], [])),
  (((.ishr), 229), ([1], [])),
  (((.sipush 255), 230), ([0], [])),
  (((.invokestatic 48), 233), ([9, 242, 2, 99, 1], [])),
  (((.iadd), 236), ([1], [])),
  (((.istore 16), 237), ([0], [])),
  (((.iconst 0), 239), ([0], [])),
  (((.istore 17), 240), ([0], [])),
  (((.iload 16), 242), ([0], [true, true, true, true, true, true, true, true, true, true, false, true, false, true, false, false, true, true, false])),
  (((.iload 17), 244), ([0], [])),
  (((.ishr), 246), ([1], [])),
  (((.iconst 1), 247), ([0], [])),
  (((.iand), 248), ([1], [])),
  (((.ifCond .ne 9), 249), ([3, 144], [])),
  (((.iinc 17 1), 252), ([0], [])),
  (((.goto (-13)), 255), ([3, 136], []))], [(((.iload 11), 258), ([0], [true, true, true, true, true, true, true, true, true, true, false, true, false, true, false, false, true, true, false])),
  (((.bipush 12), 260), ([0], [])),
  (((.ishr), 262), ([1], [])),
  (((.iconst 3), 263), ([0], [])),
  (((.invokestatic 48), 264), ([9, 242, 2, 99, 1], [])),
  (((.ifCond .ne 17), 267), ([3, 158], [])),
  (((.iconst 1), 270), ([0], [])),
  (((.iload 11), 271), ([0], [])),
  (((.bipush 14), 273), ([0], [])),
  (((.ishr), 275), ([1], [])),
  (((.iconst 3), 276), ([0], [])),
  (((.invokestatic 48), 277), ([9, 242, 2, 99, 1], [])),
  (((.ishl), 280), ([1], [])),
  (((.goto 4), 281), ([3, 159], [])),
  (((.iconst 0), 284), ([0], [true, true, true, true, true, true, true, true, true, true, false, true, false, true, false, false, true, true, false])),
  (((.istore 18), 285), ([0], [true, true, true, true, true, true, true, true, true, true, false, true, false, true, false, false, true, true, false]))], [(((.aload_n 1), 287), ([0], [])),
  (((.iload 13), 288), ([0], [])),
  (((.iload 11), 290), ([0], [])),
  (((.iconst 2), 292), ([0], [])),
  (((.ishr), 293), ([1], [])),
  (((.bipush 6), 294), ([0], [])),
  (((.invokestatic 48), 296), ([9, 242, 2, 99, 1], [])),
  (((.iload 11), 299), ([0], [])),
  (((.bipush 6), 301), ([0], [])),
  (((.ishr), 303), ([1], [])),
  (((.bipush 8), 304), ([0], [])),
  (((.invokestatic 48), 306), ([9, 242, 2, 99, 1], [])),
  (((.iload 18), 309), ([0], [])),
  (((.iload 18), 311), ([0], [])),
  (((.ifCond .ne 7), 313), ([3, 177], [])),
  (((.iconst (-1)), 316), ([0], []))], [(((.goto 7), 317), ([3, 180], [])),
  (((.iconst 1), 320), ([0], [true, true, true, true, true, true, true, true, true, true, false, true, false, true, false, false, true, true, false])),
  (((.iload 13), 321), ([0], [])),
  (((.isub), 323), ([1], [])),
  (((.iload 16), 324), ([0], [true, true, true, true, true, true, true, true, true, true, false, true, false, false, false, false, true, true, false])),
  (((.iconst 1), 326), ([0], [])),
  (((.ior), 327), ([1], [])),
  (((.iload 11), 328), ([0], [])),
  (((.bipush 8), 330), ([0], [])),
  (((.ishr), 332), ([1], [])),
  (((.iconst 3), 333), ([0], [])),
  (((.iand), 334), ([1], [])),
  (((.ifCond .le 7), 335), ([3, 191], [])),
  (((.iconst 0), 338), ([0], [])),
  (((.goto 5), 339), ([3, 192], [])),
  (((.iload 17), 342), ([0], [true, true, true, true, true, true, true, true, true, true, false, true, false, false, false, false, false, true, false]))], [(((.iload 11), 344), ([0], [true, true, true, true, true, true, true, true, true, true, false, true, false, false, false, false, false, false, false])),
  (((.bipush 16), 346), ([0], [])),
  (((.ishr), 348), ([1], [])),
  (((.iconst 4), 349), ([0], [])),
  (((.invokestatic 48), 350), ([9, 242, 2, 99, 1], [])),
  (((.ifCond .ne 7), 353), ([3, 200], [])),
  (((.iconst 1), 356), ([0], [])),
  (((.goto 4), 357), ([3, 201], [])),
  (((.iconst 0), 360), ([0], [true, true, true, true, true, true, true, true, true, true, false, true, false, false, false, false, false, false, false])),
  (((.iconst 1), 361), ([0], [true, true, true, true, true, true, true, true, true, true, false, true, false, false, false, false, false, false, false])),
  (((.invokevirtual 59), 362), ([9, 40, 10, 11, 0], [])),
  (((.iload_n 2), 365), ([0], [])),
  (((.if_icmp .ne 7), 366), ([3, 207], [])),
  (((.iconst 1), 369), ([0], [])),
  (((.goto 4), 370), ([3, 208], [])),
  (((.iconst 0), 373), ([0], [true, true, true, true, true, true, true, true, true, true, false, true, false, false, false, false, false, false, false]))], [(((.istore 15), 374), ([0], [true, true, true, true, true, true, true, true, true, true, false, true, false, false, false, false, false, false, false])),
  (((.iinc 2 1), 376), ([0], [])),
  (((.goto 774), 379), ([3, 594], [])),
  (((.iload 12), 382), ([0], [true, true, true, true, true, true, true, true, true, true, false, true, true, true, true, true, false, false, false])),
  (((.bipush 6), 384), ([0], [])),
  (((.if_icmp .ge 62), 386), ([3, 244], [])),
  (((.iload_n 3), 389), ([0], [])),
  (((.bipush 20), 390), ([0], [])),
  (((.if_icmp .ge 761), 392), ([3, 594], [])),
  (((.iload_n 3), 395), ([0], [])),
  (((.iload_n 2), 396), ([0], [])),
  (((.if_icmp .ge 756), 397), ([3, 594], [])),
  (((.aload_n 1), 400), ([0], [])),
  (((.iload_n 3), 401), ([0], [])),
  (((.iload 11), 402), ([0], [])),
  (((.bipush 9), 404), ([0], []))], [(((.ishr), 406), ([1], [])),
  (((.iload 4), 407), ([0], [])),
  (((.invokestatic 48), 409), ([9, 242, 2, 99, 1], [])),
  (((.invokevirtual 63), 412), ([9, 52, 3, 11, 0], [])),
  (((.iload_n 3), 415), ([0], [])),
  (((.if_icmp .ne 23), 416), ([3, 240], [])),
  (((.aload_n 1), 419), ([0], [])),
  (((.iload_n 3), 420), ([0], [])),
  (((.invokevirtual 66), 421), ([9, 61, 2, 11, 0], [])),
  (((.ifCond .ne 15), 424), ([3, 240], [])),
  (((.aload_n 1), 427), ([0], [])),
  (((.iload_n 3), 428), ([0], [])),
  (((.invokevirtual 69), 429), ([9, 62, 2, 11, 0], [])),
  (((.ifCond .ne 7), 432), ([3, 240], [])),
  (((.iconst 1), 435), ([0], [])),
  (((.goto 4), 436), ([3, 241], []))], [(((.iconst 0), 439), ([0], [true, true, true, true, true, true, true, true, true, true, false, true, false, false, false, false, false, false, false])),
  (((.istore 15), 440), ([0], [true, true, true, true, true, true, true, true, true, true, false, true, false, false, false, false, false, false, false])),
  (((.iinc 3 1), 442), ([0], [])),
  (((.goto 708), 445), ([3, 594], [])),
  (((.iload 12), 448), ([0], [true, true, true, true, true, true, true, true, true, true, false, true, true, true, true, true, false, false, false])),
  (((.bipush 11), 450), ([0], [])),
  (((.if_icmp .ge 33), 452), ([3, 264], [])),
  (((.iconst 1), 455), ([0], [])),
  (((.iload 11), 456), ([0], [])),
  (((.iconst 4), 458), ([0], [])),
  (((.ishr), 459), ([1], [])),
  (((.bipush 6), 460), ([0], [])),
  (((.invokestatic 48), 462), ([9, 242, 2, 99, 1], [])),
  (((.iadd), 465), ([1], [])),
  (((.istore 16), 466), ([0], [])),
  (((.aload_n 1), 468), ([0], []))], [(((.iload 16), 469), ([0], [])),
  (((.invokevirtual 72), 471), ([9, 73, 2, 11, 0], [])),
  (((.pop), 474), ([0], [])),
  (((.iload 8), 475), ([0], [])),
  (((.iload 16), 477), ([0], [])),
  (((.iadd), 479), ([1], [])),
  (((.istore 8), 480), ([0], [])),
  (((.goto 671), 482), ([3, 594], [])),
  (((.iload 12), 485), ([0], [true, true, true, true, true, true, true, true, true, true, false, true, true, true, true, true, false, false, false])),
  (((.bipush 11), 487), ([0], [])),
  (((.if_icmp .ne 71), 489), ([3, 306], [])),
  (((.iload_n 3), 492), ([0], [])),
  (((.ifCond .le 660), 493), ([3, 594], [])),
  (((.aload_n 1), 496), ([0], [])),
  (((.iload_n 3), 497), ([0], [])),
  (((.iconst 1), 498), ([0], []))], [(((.isub), 499), ([1], [])),
  (((.invokevirtual 66), 500), ([9, 61, 2, 11, 0], [])),
  (((.iconst 2), 503), ([0], [])),
  (((.if_icmp .ge 649), 504), ([3, 594], [])),
  (((.aload_n 1), 507), ([0], [])),
  (((.iload_n 3), 508), ([0], [])),
  (((.iconst 1), 509), ([0], [])),
  (((.isub), 510), ([1], [])),
  (((.invokevirtual 75), 511), ([9, 55, 2, 11, 0], [])),
  (((.istore 16), 514), ([0], [])),
  (((.iload 16), 516), ([0], [])),
  (((.ifCond .lt 36), 518), ([3, 303], [])),
  (((.iload 16), 521), ([0], [])),
  (((.iconst 3), 523), ([0], [])),
  (((.if_icmp .gt 30), 524), ([3, 303], [])),
  (((.aload_n 1), 527), ([0], []))], [(((.iload_n 3), 528), ([0], [])),
  (((.iconst 1), 529), ([0], [])),
  (((.isub), 530), ([1], [])),
  (((.invokevirtual 66), 531), ([9, 61, 2, 11, 0], [])),
  (((.iconst 3), 534), ([0], [])),
  (((.if_icmp .ne 19), 535), ([3, 303], [])),
  (((.aload_n 1), 538), ([0], [])),
  (((.iload_n 3), 539), ([0], [])),
  (((.iconst 1), 540), ([0], [])),
  (((.isub), 541), ([1], [])),
  (((.invokevirtual 78), 542), ([9, 63, 2, 11, 0], [])),
  (((.bipush 14), 545), ([0], [])),
  (((.if_icmp .ne 7), 547), ([3, 303], [])),
  (((.iconst 1), 550), ([0], [])),
  (((.goto 4), 551), ([3, 304], [])),
  (((.iconst 0), 554), ([0], [true, true, true, true, true, true, true, true, true, true, false, true, false, false, false, false, false, false, false]))], [(((.istore 15), 555), ([0], [true, true, true, true, true, true, true, true, true, true, false, true, false, false, false, false, false, false, false])),
  (((.goto 596), 557), ([3, 594], [])),
  (((.iload 12), 560), ([0], [true, true, true, true, true, true, true, true, true, true, false, true, true, true, true, true, false, false, false])),
  (((.bipush 12), 562), ([0], [])),
  (((.if_icmp .ne 114), 564), ([3, 361], [])),
  (((.iload 5), 567), ([0], [])),
  (((.istore 16), 569), ([0], [])),
  (((.aload_n 1), 571), ([0], [])),
  (((.iload 13), 572), ([0], [])),
  (((.iload 16), 574), ([0], [])),
  (((.invokevirtual 81), 576), ([9, 88, 3, 11, 0], [])),
  (((.istore 17), 579), ([0], [])),
  (((.iload 17), 581), ([0], [])),
  (((.ifCond .lt 92), 583), ([3, 360], [])),
  (((.iload 5), 586), ([0], [])),
  (((.bipush 40), 588), ([0], []))], [(((.if_icmp .ge 85), 590), ([3, 360], [])),
  (((.aload_n 1), 593), ([0], [])),
  (((.iload 13), 594), ([0], [])),
  (((.iload 16), 596), ([0], [])),
  (((.invokevirtual 84), 598), ([9, 91, 3, 11, 0], [])),
  (((.iload 17), 601), ([0], [])),
  (((.if_icmp .ne 29), 603), ([3, 339], [])),
  (((.aload_n 1), 606), ([0], [])),
  (((.iload 13), 607), ([0], [])),
  (((.iload 16), 609), ([0], [])),
  (((.invokevirtual 81), 611), ([9, 88, 3, 11, 0], [])),
  (((.iload 17), 614), ([0], [])),
  (((.if_icmp .ne 16), 616), ([3, 339], [])),
  (((.aload_n 1), 619), ([0], [])),
  (((.iload 17), 620), ([0], [])),
  (((.invokevirtual 20), 622), ([9, 43, 2, 11, 0], []))], [(((.ifCond .eq 7), 625), ([3, 339], [])),
  (((.iconst 1), 628), ([0], [])),
  (((.goto 4), 629), ([3, 340], [])),
  (((.iconst 0), 632), ([0], [true, true, true, true, true, true, true, true, true, true, false, true, false, true, false, false, true, true, false])),
  (((.istore 15), 633), ([0], [true, true, true, true, true, true, true, true, true, true, false, true, false, true, false, false, true, true, false])),
  (((.iinc 5 1), 635), ([0], [])),
  (((.iload 11), 638), ([0], [])),
  (((.bipush 12), 640), ([0], [])),
  (((.ishr), 642), ([1], [])),
  (((.iconst 2), 643), ([0], [])),
  (((.invokestatic 48), 644), ([9, 242, 2, 99, 1], [])),
  (((.ifCond .ne 28), 647), ([3, 360], [])),
  (((.iload 15), 650), ([0], [])),
  (((.ifCond .eq 20), 652), ([3, 358], [])),
  (((.aload_n 1), 655), ([0], [])),
  (((.iload 13), 656), ([0], []))], [(((.iload 16), 658), ([0], [])),
  (((.invokevirtual 87), 660), ([9, 92, 3, 11, 0], [])),
  (((.iload 17), 663), ([0], [])),
  (((.if_icmp .ne 7), 665), ([3, 358], [])),
  (((.iconst 1), 668), ([0], [])),
  (((.goto 4), 669), ([3, 359], [])),
  (((.iconst 0), 672), ([0], [true, true, true, true, true, true, true, true, true, true, false, true, false, false, false, false, false, false, false])),
  (((.istore 15), 673), ([0], [true, true, true, true, true, true, true, true, true, true, false, true, false, false, false, false, false, false, false])),
  (((.goto 478), 675), ([3, 594], [true, true, true, true, true, true, true, true, true, true, false, true, false, false, false, true, false, false, false])),
  (((.iload 12), 678), ([0], [true, true, true, true, true, true, true, true, true, true, false, true, true, true, true, true, false, false, false])),
  (((.bipush 13), 680), ([0], [])),
  (((.if_icmp .ne 118), 682), ([3, 418], [])),
  (((.aload_n 1), 685), ([0], [])),
  (((.iload 13), 686), ([0], [])),
  (((.iload 14), 688), ([0], [])),
  (((.invokevirtual 8), 690), ([9, 85, 3, 11, 0], []))], [(((.ifCond .lt 460), 693), ([3, 594], [])),
  (((.aload_n 1), 696), ([0], [])),
  (((.iload 13), 697), ([0], [])),
  (((.iload 14), 699), ([0], [])),
  (((.invokevirtual 14), 701), ([9, 86, 3, 11, 0], [])),
  (((.ifCond .lt 449), 704), ([3, 594], [])),
  (((.iload 6), 707), ([0], [])),
  (((.sipush 500), 709), ([0], [])),
  (((.if_icmp .ge 441), 712), ([3, 594], [])),
  (((.iconst 0), 715), ([0], [])),
  (((.istore 16), 716), ([0], [])),
  (((.iload 16), 718), ([0], [true, true, true, true, true, true, true, true, true, true, false, true, false, true, true, true, true, false, false])),
  (((.bipush 6), 720), ([0], [])),
  (((.if_icmp .ge 72), 722), ([3, 416], [])),
  (((.iload 15), 725), ([0], [])),
  (((.ifCond .eq 58), 727), ([3, 412], []))], [(((.aload_n 1), 730), ([0], [])),
  (((.iload 13), 731), ([0], [])),
  (((.iload 14), 733), ([0], [])),
  (((.iload 16), 735), ([0], [])),
  (((.iconst 2), 737), ([0], [])),
  (((.irem), 738), ([1], [])),
  (((.ifCond .ne 7), 739), ([3, 393], [])),
  (((.iconst 1), 742), ([0], [])),
  (((.goto 4), 743), ([3, 394], [])),
  (((.iconst 0), 746), ([0], [true, true, true, true, true, true, true, true, true, true, false, true, false, true, true, false, true, false, false])),
  (((.iload 11), 747), ([0], [true, true, true, true, true, true, true, true, true, true, false, true, false, true, true, false, true, false, false])),
  (((.iload 16), 749), ([0], [])),
  (((.ishr), 751), ([1], [])),
  (((.iconst 3), 752), ([0], [])),
  (((.invokestatic 48), 753), ([9, 242, 2, 99, 1], [])),
  (((.ifCond .ne 7), 756), ([3, 402], []))], [(((.iconst 1), 759), ([0], [])),
  (((.goto 4), 760), ([3, 403], [])),
  (((.iconst 0), 763), ([0], [true, true, true, true, true, true, true, true, true, true, false, true, false, true, true, false, true, false, false])),
  (((.iload 11), 764), ([0], [true, true, true, true, true, true, true, true, true, true, false, true, false, true, true, false, true, false, false])),
  (((.bipush 8), 766), ([0], [])),
  (((.ishr), 768), ([1], [])),
  (((.sipush 300), 769), ([0], [])),
  (((.invokestatic 48), 772), ([9, 242, 2, 99, 1], [])),
  (((.invokevirtual 90), 775), ([9, 101, 6, 11, 0], [])),
  (((.ifCond .le 7), 778), ([3, 412], [])),
  (((.iconst 1), 781), ([0], [])),
  (((.goto 4), 782), ([3, 413], [])),
  (((.iconst 0), 785), ([0], [true, true, true, true, true, true, true, true, true, true, false, true, false, true, true, false, true, false, false])),
  (((.istore 15), 786), ([0], [true, true, true, true, true, true, true, true, true, true, false, true, false, true, true, false, true, false, false])),
  (((.iinc 16 1), 788), ([0], [])),
  (((.goto (-73)), 791), ([3, 379], []))], [(((.iinc 6 6), 794), ([0], [true, true, true, true, true, true, true, true, true, true, false, true, false, false, false, true, false, false, false])),
  (((.goto 356), 797), ([3, 594], [])),
  (((.iload 12), 800), ([0], [true, true, true, true, true, true, true, true, true, true, false, true, true, true, true, true, false, false, false])),
  (((.bipush 14), 802), ([0], [])),
  (((.if_icmp .ne 50), 804), ([3, 445], [])),
  (((.aload_n 1), 807), ([0], [])),
  (((.iload 13), 808), ([0], [])),
  (((.invokevirtual 94), 810), ([9, 106, 2, 11, 0], [])),
  (((.istore 16), 813), ([0], [])),
  (((.aload_n 1), 815), ([0], [])),
  (((.iload 13), 816), ([0], [])),
  (((.invokevirtual 94), 818), ([9, 106, 2, 11, 0], [])),
  (((.iload 16), 821), ([0], [])),
  (((.if_icmp .eq 7), 823), ([3, 432], [])),
  (((.iconst 1), 826), ([0], [])),
  (((.goto 4), 827), ([3, 433], []))], [(((.iconst 0), 830), ([0], [true, true, true, true, true, true, true, true, true, true, false, true, false, true, false, false, false, false, false])),
  (((.istore 15), 831), ([0], [true, true, true, true, true, true, true, true, true, true, false, true, false, true, false, false, false, false, false])),
  (((.iload 11), 833), ([0], [])),
  (((.iconst 4), 835), ([0], [])),
  (((.ishr), 836), ([1], [])),
  (((.iconst 2), 837), ([0], [])),
  (((.invokestatic 48), 838), ([9, 242, 2, 99, 1], [])),
  (((.ifCond .ne 10), 841), ([3, 444], [])),
  (((.aload_n 1), 844), ([0], [])),
  (((.iload 13), 845), ([0], [])),
  (((.invokevirtual 94), 847), ([9, 106, 2, 11, 0], [])),
  (((.pop), 850), ([0], [])),
  (((.goto 302), 851), ([3, 594], [true, true, true, true, true, true, true, true, true, true, false, true, false, false, false, true, false, false, false])),
  (((.iload 12), 854), ([0], [true, true, true, true, true, true, true, true, true, true, false, true, true, false, true, true, false, false, false])),
  (((.bipush 15), 856), ([0], [])),
  (((.if_icmp .ne 93), 858), ([3, 494], []))], [(((.aload_n 1), 861), ([0], [])),
  (((.iload 14), 862), ([0], [])),
  (((.invokevirtual 97), 864), ([9, 111, 2, 11, 0], [])),
  (((.istore 16), 867), ([0], [])),
  (((.aload_n 1), 869), ([0], [])),
  (((.iload 14), 870), ([0], [])),
  (((.iload 11), 872), ([0], [])),
  (((.iconst 3), 874), ([0], [])),
  (((.ishr), 875), ([1], [])),
  (((.iconst 3), 876), ([0], [])),
  (((.invokestatic 48), 877), ([9, 242, 2, 99, 1], [])),
  (((.invokevirtual 100), 880), ([9, 109, 3, 11, 0], [])),
  (((.istore 17), 883), ([0], [])),
  (((.aload_n 1), 885), ([0], [])),
  (((.iload 14), 886), ([0], [])),
  (((.invokevirtual 97), 888), ([9, 111, 2, 11, 0], []))], [(((.iload 16), 891), ([0], [])),
  (((.iload 17), 893), ([0], [])),
  (((.ifCond .eq 8), 895), ([3, 469], [])),
  (((.bipush (-4)), 898), ([0], [])),
  (((.goto 4), 900), ([3, 470], [])),
  (((.iconst 4), 903), ([0], [true, true, true, true, true, true, true, true, true, true, false, true, false, false, true, false, false, false, false])),
  (((.iadd), 904), ([1], [true, true, true, true, true, true, true, true, true, true, false, true, false, false, true, false, false, false, false])),
  (((.if_icmp .ne 7), 905), ([3, 474], [])),
  (((.iconst 1), 908), ([0], [])),
  (((.goto 4), 909), ([3, 475], [])),
  (((.iconst 0), 912), ([0], [true, true, true, true, true, true, true, true, true, true, false, true, false, false, true, false, false, false, false])),
  (((.istore 15), 913), ([0], [true, true, true, true, true, true, true, true, true, true, false, true, false, false, true, false, false, false, false])),
  (((.aload_n 1), 915), ([0], [])),
  (((.iload 14), 916), ([0], [])),
  (((.iconst 3), 918), ([0], [])),
  (((.invokevirtual 104), 919), ([9, 110, 3, 11, 0], []))], [(((.istore 18), 922), ([0], [])),
  (((.iload 15), 924), ([0], [])),
  (((.ifCond .eq 19), 926), ([3, 491], [])),
  (((.aload_n 1), 929), ([0], [])),
  (((.iload 14), 930), ([0], [])),
  (((.iload 18), 932), ([0], [])),
  (((.invokevirtual 104), 934), ([9, 110, 3, 11, 0], [])),
  (((.iconst 3), 937), ([0], [])),
  (((.if_icmp .ne 7), 938), ([3, 491], [])),
  (((.iconst 1), 941), ([0], [])),
  (((.goto 4), 942), ([3, 492], [])),
  (((.iconst 0), 945), ([0], [true, true, true, true, true, true, true, true, true, true, false, true, false, false, false, false, false, false, false])),
  (((.istore 15), 946), ([0], [true, true, true, true, true, true, true, true, true, true, false, true, false, false, false, false, false, false, false])),
  (((.goto 205), 948), ([3, 594], [])),
  (((.iload 12), 951), ([0], [true, true, true, true, true, true, true, true, true, true, false, true, true, false, true, true, false, false, false])),
  (((.bipush 16), 953), ([0], []))], [(((.if_icmp .ne 57), 955), ([3, 523], [])),
  (((.aload_n 1), 958), ([0], [])),
  (((.invokevirtual 107), 959), ([9, 83, 1, 11, 0], [])),
  (((.ifCond .eq 27), 962), ([3, 511], [])),
  (((.aload_n 1), 965), ([0], [])),
  (((.invokevirtual 111), 966), ([9, 82, 1, 11, 0], [])),
  (((.ifCond .lt 14), 969), ([3, 508], [])),
  (((.aload_n 1), 972), ([0], [])),
  (((.invokevirtual 107), 973), ([9, 83, 1, 11, 0], [])),
  (((.ifCond .ne 7), 976), ([3, 508], [])),
  (((.iconst 1), 979), ([0], [])),
  (((.goto 4), 980), ([3, 509], [])),
  (((.iconst 0), 983), ([0], [true, true, true, true, true, true, true, true, true, true, false, true, false, false, false, false, false, false, false])),
  (((.istore 15), 984), ([0], [true, true, true, true, true, true, true, true, true, true, false, true, false, false, false, false, false, false, false])),
  (((.goto 167), 986), ([3, 594], [])),
  (((.aload_n 1), 989), ([0], [true, true, true, true, true, true, true, true, true, true, false, true, false, false, false, true, false, false, false]))], [(((.iload 11), 990), ([0], [])),
  (((.iconst 4), 992), ([0], [])),
  (((.ishr), 993), ([1], [])),
  (((.iconst 2), 994), ([0], [])),
  (((.invokestatic 48), 995), ([9, 242, 2, 99, 1], [])),
  (((.ifCond .ne 7), 998), ([3, 520], [])),
  (((.iconst 1), 1001), ([0], [])),
  (((.goto 4), 1002), ([3, 521], [])),
  (((.iconst 0), 1005), ([0], [true, true, true, true, true, true, true, true, true, true, false, true, false, false, false, true, false, false, false])),
  (((.invokevirtual 114), 1006), ([9, 81, 2, 11, 0], [true, true, true, true, true, true, true, true, true, true, false, true, false, false, false, true, false, false, false])),
  (((.goto 144), 1009), ([3, 594], [])),
  (((.iload 12), 1012), ([0], [true, true, true, true, true, true, true, true, true, true, false, true, true, false, true, true, false, false, false])),
  (((.bipush 17), 1014), ([0], [])),
  (((.if_icmp .ne 68), 1016), ([3, 560], [])),
  (((.iload_n 3), 1019), ([0], [])),
  (((.ifCond .le 133), 1020), ([3, 594], []))], [(((.aload_n 1), 1023), ([0], [])),
  (((.iload_n 3), 1024), ([0], [])),
  (((.iconst 1), 1025), ([0], [])),
  (((.isub), 1026), ([1], [])),
  (((.invokevirtual 66), 1027), ([9, 61, 2, 11, 0], [])),
  (((.iconst 2), 1030), ([0], [])),
  (((.if_icmp .ge 122), 1031), ([3, 594], [])),
  (((.aload_n 1), 1034), ([0], [])),
  (((.iload_n 3), 1035), ([0], [])),
  (((.iconst 1), 1036), ([0], [])),
  (((.isub), 1037), ([1], [])),
  (((.invokevirtual 78), 1038), ([9, 63, 2, 11, 0], [])),
  (((.istore 16), 1041), ([0], [])),
  (((.iload 16), 1043), ([0], [])),
  (((.ifCond .lt 33), 1045), ([3, 557], [])),
  (((.iload 16), 1048), ([0], []))], [(((.bipush 14), 1050), ([0], [])),
  (((.if_icmp .ge 26), 1052), ([3, 557], [])),
  (((.iload 16), 1055), ([0], [])),
  (((.bipush 13), 1057), ([0], [])),
  (((.if_icmp .ne 7), 1059), ([3, 551], [])),
  (((.iconst 1), 1062), ([0], [])),
  (((.goto 4), 1063), ([3, 552], [])),
  (((.iconst 0), 1066), ([0], [true, true, true, true, true, true, true, true, true, true, false, true, false, false, false, false, false, false, false])),
  (((.aload_n 1), 1067), ([0], [true, true, true, true, true, true, true, true, true, true, false, true, false, false, false, false, false, false, false])),
  (((.invokevirtual 107), 1068), ([9, 83, 1, 11, 0], [])),
  (((.if_icmp .ne 7), 1071), ([3, 557], [])),
  (((.iconst 1), 1074), ([0], [])),
  (((.goto 4), 1075), ([3, 558], [])),
  (((.iconst 0), 1078), ([0], [true, true, true, true, true, true, true, true, true, true, false, true, false, false, false, false, false, false, false])),
  (((.istore 15), 1079), ([0], [true, true, true, true, true, true, true, true, true, true, false, true, false, false, false, false, false, false, false])),
  (((.goto 72), 1081), ([3, 594], []))], [(((.iconst 0), 1084), ([0], [true, true, true, true, true, true, true, true, true, true, false, true, false, false, true, false, false, false, false])),
  (((.istore 16), 1085), ([0], [])),
  (((.iconst 0), 1087), ([0], [])),
  (((.istore 17), 1088), ([0], [])),
  (((.iload 17), 1090), ([0], [true, true, true, true, true, true, true, true, true, true, false, true, false, false, true, false, true, true, false])),
  (((.iload_n 2), 1092), ([0], [])),
  (((.if_icmp .ge 22), 1093), ([3, 576], [])),
  (((.iload 16), 1096), ([0], [])),
  (((.aload_n 1), 1098), ([0], [])),
  (((.iload 17), 1099), ([0], [])),
  (((.iload 14), 1101), ([0], [])),
  (((.invokevirtual 118), 1103), ([9, 90, 3, 11, 0], [])),
  (((.iadd), 1106), ([1], [])),
  (((.istore 16), 1107), ([0], [])),
  (((.iinc 17 1), 1109), ([0], [])),
  (((.goto (-22)), 1112), ([3, 564], []))], [(((.iload 16), 1115), ([0], [true, true, true, true, true, true, true, true, true, true, false, true, false, false, true, false, true, false, false])),
  (((.iload 14), 1117), ([0], [])),
  (((.ifCond .ne 8), 1119), ([3, 581], [])),
  (((.bipush 40), 1122), ([0], [])),
  (((.goto 17), 1124), ([3, 587], [])),
  (((.iload 14), 1127), ([0], [true, true, true, true, true, true, true, true, true, true, false, true, false, false, true, false, false, false, false])),
  (((.iconst 1), 1129), ([0], [])),
  (((.if_icmp .ne 8), 1130), ([3, 586], [])),
  (((.bipush 120), 1133), ([0], [])),
  (((.goto 6), 1135), ([3, 587], [])),
  (((.sipush 240), 1138), ([0], [true, true, true, true, true, true, true, true, true, true, false, true, false, false, false, false, false, false, false])),
  (((.iconst 2), 1141), ([0], [true, true, true, true, true, true, true, true, true, true, false, true, false, false, false, false, false, false, false])),
  (((.imul), 1142), ([1], [])),
  (((.if_icmp .gt 7), 1143), ([3, 592], [])),
  (((.iconst 1), 1146), ([0], [])),
  (((.goto 4), 1147), ([3, 593], []))], [(((.iconst 0), 1150), ([0], [true, true, true, true, true, true, true, true, true, true, false, true, false, false, false, false, false, false, false])),
  (((.istore 15), 1151), ([0], [true, true, true, true, true, true, true, true, true, true, false, true, false, false, false, false, false, false, false])),
  (((.iload 15), 1153), ([0], [true, true, true, true, true, true, true, true, true, true, false, true, false, false, false, true, false, false, false])),
  (((.ifCond .eq 43), 1155), ([3, 616], [])),
  (((.aload_n 1), 1158), ([0], [])),
  (((.invokevirtual 121), 1159), ([9, 48, 1, 11, 0], [])),
  (((.ifCond .ne 36), 1162), ([3, 616], [])),
  (((.aload_n 1), 1165), ([0], [])),
  (((.invokevirtual 124), 1166), ([9, 84, 1, 11, 0], [])),
  (((.iload 7), 1169), ([0], [])),
  (((.if_icmp .lt 27), 1171), ([3, 616], [])),
  (((.aload_n 1), 1174), ([0], [])),
  (((.iload 11), 1175), ([0], [])),
  (((.iconst 5), 1177), ([0], [])),
  (((.ishr), 1178), ([1], [])),
  (((.iconst 2), 1179), ([0], []))], [(((.invokestatic 48), 1180), ([9, 242, 2, 99, 1], [])),
  (((.iload 11), 1183), ([0], [])),
  (((.bipush 7), 1185), ([0], [])),
  (((.ishr), 1187), ([1], [])),
  (((.iconst 3), 1188), ([0], [])),
  (((.invokestatic 48), 1189), ([9, 242, 2, 99, 1], [])),
  (((.invokestatic 127), 1192), ([9, 243, 3, 99, 1], [])),
  (((.ifCond .ne 5), 1195), ([3, 618], [])),
  (((.iconst 0), 1198), ([0], [false, false, false, false, false, false, false, false, false, false, false, false, false, false, false, false, false, false, false])),
  (((.ireturn), 1199), ([10], [])),
  (((.aload_n 1), 1200), ([0], [true, true, true, true, true, true, true, false, true, true, false, false, false, false, false, false, false, false, false])),
  (((.invokevirtual 124), 1201), ([9, 84, 1, 11, 0], [])),
  (((.istore 7), 1204), ([0], [])),
  (((.iinc 9 1), 1206), ([0], [])),
  (((.goto (-1179)), 1209), ([3, 20], [])),
  (((.iload 8), 1212), ([0], [false, false, false, false, false, false, false, false, true, false, false, false, false, false, false, false, false, false, false]))], [(((.sipush 20000), 1214), ([0], [])),
  (((.if_icmp .gt 7), 1217), ([3, 628], [])),
  (((.iconst 1), 1220), ([0], [])),
  (((.goto 4), 1221), ([3, 629], [])),
  (((.iconst 0), 1224), ([0], [false, false, false, false, false, false, false, false, false, false, false, false, false, false, false, false, false, false, false])),
  (((.ireturn), 1225), ([10], [false, false, false, false, false, false, false, false, false, false, false, false, false, false, false, false, false, false, false]))]]
-- 292: yJ6_bitCount_0f7a4
set_option maxRecDepth 100000 in
noncomputable def zcd_292 : List (List zOp) := [[(((.iload_n 0), 0), ([0], [])),
  (((.iload_n 0), 1), ([0], [])),
  (((.iconst 1), 2), ([0], [])),
  (((.iushr), 3), ([1], [])),
  (((.ldc_w 265), 4), ([0, 1431655765], [])),
  (((.iand), 7), ([1], [])),
  (((.isub), 8), ([1], [])),
  (((.istore_n 0), 9), ([0], [])),
  (((.iload_n 0), 10), ([0], [])),
  (((.ldc_w 266), 11), ([0, 858993459], [])),
  (((.iand), 14), ([1], [])),
  (((.iload_n 0), 15), ([0], [])),
  (((.iconst 2), 16), ([0], [])),
  (((.iushr), 17), ([1], [])),
  (((.ldc_w 266), 18), ([0, 858993459], [])),
  (((.iand), 21), ([1], []))], [(((.iadd), 22), ([1], [])),
  (((.istore_n 0), 23), ([0], [])),
  (((.iload_n 0), 24), ([0], [])),
  (((.iload_n 0), 25), ([0], [])),
  (((.iconst 4), 26), ([0], [])),
  (((.iushr), 27), ([1], [])),
  (((.iadd), 28), ([1], [])),
  (((.ldc_w 267), 29), ([0, 252645135], [])),
  (((.iand), 32), ([1], [])),
  (((.istore_n 0), 33), ([0], [])),
  (((.iload_n 0), 34), ([0], [])),
  (((.iload_n 0), 35), ([0], [])),
  (((.bipush 8), 36), ([0], [])),
  (((.iushr), 38), ([1], [])),
  (((.iadd), 39), ([1], [])),
  (((.istore_n 0), 40), ([0], []))], [(((.iload_n 0), 41), ([0], [])),
  (((.iload_n 0), 42), ([0], [])),
  (((.bipush 16), 43), ([0], [])),
  (((.iushr), 45), ([1], [])),
  (((.iadd), 46), ([1], [])),
  (((.istore_n 0), 47), ([0], [])),
  (((.iload_n 0), 48), ([0], [])),
  (((.bipush 63), 49), ([0], [])),
  (((.iand), 51), ([1], [])),
  (((.ireturn), 52), ([10], []))]]
-- 293: yJ9_min_7cf53
set_option maxRecDepth 100000 in
noncomputable def zcd_293 : List (List zOp) := [[(((.iload_n 0), 0), ([0], [])),
  (((.iload_n 1), 1), ([0], [])),
  (((.if_icmp .gt 7), 2), ([3, 5], [])),
  (((.iload_n 0), 5), ([0], [])),
  (((.goto 4), 6), ([3, 6], [])),
  (((.iload_n 1), 9), ([0], [false, true])),
  (((.ireturn), 10), ([10], [false, false]))]]
noncomputable def zpg : List (List (List (List zOp))) := [[zcd_0, zcd_1, zcd_2, zcd_3, zcd_4, zcd_5, zcd_6, zcd_7, zcd_8, zcd_9, zcd_10, zcd_11, zcd_12, zcd_13, zcd_14, zcd_15], [zcd_16, zcd_17, zcd_18, zcd_19, zcd_20, zcd_21, zcd_22, zcd_23, zcd_24, zcd_25, zcd_26, zcd_27, zcd_28, zcd_29, zcd_30, zcd_31], [zcd_32, zcd_33, zcd_34, zcd_35, zcd_36, zcd_37, zcd_38, zcd_39, zcd_40, zcd_41, zcd_42, zcd_43, zcd_44, zcd_45, zcd_46, zcd_47], [zcd_48, zcd_49, zcd_50, zcd_51, zcd_52, zcd_53, zcd_54, zcd_55, zcd_56, zcd_57, zcd_58, zcd_59, zcd_60, zcd_61, zcd_62, zcd_63], [zcd_64, zcd_65, zcd_66, zcd_67, zcd_68, zcd_69, zcd_70, zcd_71, zcd_72, zcd_73, zcd_74, zcd_75, zcd_76, zcd_77, zcd_78, zcd_79], [zcd_80, zcd_81, zcd_82, zcd_83, zcd_84, zcd_85, zcd_86, zcd_87, zcd_88, zcd_89, zcd_90, zcd_91, zcd_92, zcd_93, zcd_94, zcd_95], [zcd_96, zcd_97, zcd_98, zcd_99, zcd_100, zcd_101, zcd_102, zcd_103, zcd_104, zcd_105, zcd_106, zcd_107, zcd_108, zcd_109, zcd_110, zcd_111], [zcd_112, zcd_113, zcd_114, zcd_115, zcd_116, zcd_117, zcd_118, zcd_119, zcd_120, zcd_121, zcd_122, zcd_123, zcd_124, zcd_125, zcd_126, zcd_127], [zcd_128, zcd_129, zcd_130, zcd_131, zcd_132, zcd_133, zcd_134, zcd_135, zcd_136, zcd_137, zcd_138, zcd_139, zcd_140, zcd_141, zcd_142, zcd_143], [zcd_144, zcd_145, zcd_146, zcd_147, zcd_148, zcd_149, zcd_150, zcd_151, zcd_152, zcd_153, zcd_154, zcd_155, zcd_156, zcd_157, zcd_158, zcd_159], [zcd_160, zcd_161, zcd_162, zcd_163, zcd_164, zcd_165, zcd_166, zcd_167, zcd_168, zcd_169, zcd_170, zcd_171, zcd_172, zcd_173, zcd_174, zcd_175], [zcd_176, zcd_177, zcd_178, zcd_179, zcd_180, zcd_181, zcd_182, zcd_183, zcd_184, zcd_185, zcd_186, zcd_187, zcd_188, zcd_189, zcd_190, zcd_191], [zcd_192, zcd_193, zcd_194, zcd_195, zcd_196, zcd_197, zcd_198, zcd_199, zcd_200, zcd_201, zcd_202, zcd_203, zcd_204, zcd_205, zcd_206, zcd_207], [zcd_208, zcd_209, zcd_210, zcd_211, zcd_212, zcd_213, zcd_214, zcd_215, zcd_216, zcd_217, zcd_218, zcd_219, zcd_220, zcd_221, zcd_222, zcd_223], [zcd_224, zcd_225, zcd_226, zcd_227, zcd_228, zcd_229, zcd_230, zcd_231, zcd_232, zcd_233, zcd_234, zcd_235, zcd_236, zcd_237, zcd_238, zcd_239], [zcd_240, zcd_241, zcd_242, zcd_243, zcd_244, zcd_245, zcd_246, zcd_247, zcd_248, zcd_249, zcd_250, zcd_251, zcd_252, zcd_253, zcd_254, zcd_255], [zcd_256, zcd_257, zcd_258, zcd_259, zcd_260, zcd_261, zcd_262, zcd_263, zcd_264, zcd_265, zcd_266, zcd_267, zcd_268, zcd_269, zcd_270, zcd_271], [zcd_272, zcd_273, zcd_274, zcd_275, zcd_276, zcd_277, zcd_278, zcd_279, zcd_280, zcd_281, zcd_282, zcd_283, zcd_284, zcd_285, zcd_286, zcd_287], [zcd_288, zcd_289, zcd_290, zcd_291, zcd_292, zcd_293]]
noncomputable def zcode (mi : Nat) : List (List zOp) := ((zpg[mi / 16]?.getD [])[mi % 16]?).getD []
noncomputable def zfetch (mi pc : Nat) : Option zOp := ((zcode mi)[pc / 16]?.getD [])[pc % 16]?
def zinf : List (List (Nat × Nat)) := [[(4, 0), (2, 1), (0, 0), (0, 0), (1, 0), (0, 0), (2, 2), (1, 0), (4, 0), (4, 0), (1, 2), (3, 0), (1, 1), (1, 1), (1, 1), (0, 0)], [(0, 0), (1, 0), (2, 0), (4, 0), (2, 2), (3, 1), (4, 1), (2, 2), (2, 0), (4, 2), (3, 0), (1, 0), (2, 2), (4, 0), (2, 0), (2, 3)], [(5, 1), (5, 4), (1, 1), (4, 1), (6, 1), (1, 1), (0, 0), (2, 0), (11, 1), (3, 0), (0, 0), (2, 2), (2, 1), (2, 1), (5, 2), (4, 2)], [(6, 1), (1, 1), (6, 1), (3, 0), (5, 1), (4, 3), (0, 0), (4, 1), (4, 1), (8, 2), (5, 0), (5, 0), (4, 0), (2, 1), (2, 1), (3, 1)], [(4, 1), (8, 1), (3, 3), (5, 2), (13, 2), (5, 1), (1, 1), (2, 1), (6, 2), (5, 1), (3, 0), (4, 0), (5, 1), (3, 2), (4, 0), (7, 0)], [(2, 0), (2, 0), (3, 1), (1, 2), (1, 1), (3, 1), (3, 1), (3, 1), (3, 1), (6, 3), (6, 1), (5, 1), (5, 1), (6, 1), (0, 0), (0, 0)], [(0, 0), (0, 0), (0, 0), (0, 0), (0, 0), (7, 1), (3, 4), (3, 1), (3, 1), (0, 0), (3, 2), (0, 0), (0, 0), (3, 2), (4, 1), (2, 1)], [(0, 0), (0, 0), (0, 0), (0, 0), (0, 0), (0, 0), (0, 0), (0, 0), (0, 0), (0, 0), (0, 0), (0, 0), (0, 0), (0, 0), (0, 0), (0, 0)], [(0, 0), (0, 0), (2, 0), (3, 0), (3, 3), (2, 2), (1, 1), (2, 1), (0, 0), (0, 0), (0, 0), (0, 0), (0, 0), (0, 0), (0, 0), (0, 0)], [(0, 0), (0, 0), (0, 0), (0, 0), (0, 0), (0, 0), (0, 0), (0, 0), (0, 0), (0, 0), (0, 0), (0, 0), (0, 0), (0, 0), (0, 0), (0, 0)], [(0, 0), (0, 0), (0, 0), (0, 0), (0, 0), (0, 0), (0, 0), (0, 0), (0, 0), (0, 0), (0, 0), (0, 0), (0, 0), (0, 0), (0, 0), (0, 0)], [(0, 0), (0, 0), (0, 0), (0, 0), (0, 0), (0, 0), (0, 0), (0, 0), (0, 0), (0, 0), (0, 0), (0, 0), (0, 0), (0, 0), (0, 0), (0, 0)], [(0, 0), (0, 0), (0, 0), (0, 0), (0, 0), (0, 0), (0, 0), (0, 0), (0, 0), (0, 0), (0, 0), (0, 0), (0, 0), (0, 0), (0, 0), (0, 0)], [(0, 0), (0, 0), (0, 0), (0, 0), (0, 0), (0, 0), (0, 0), (0, 0), (0, 0), (0, 0), (0, 0), (0, 0), (0, 0), (0, 0), (0, 0), (0, 0)], [(0, 0), (0, 0), (0, 0), (0, 0), (0, 0), (0, 0), (0, 0), (0, 0), (0, 0), (0, 0), (0, 0), (0, 0), (0, 0), (0, 0), (0, 0), (0, 0)], [(0, 0), (2, 1), (2, 1), (8, 2), (0, 0), (0, 0), (0, 0), (0, 0), (0, 0), (0, 0), (0, 0), (0, 0), (0, 0), (0, 0), (0, 0), (0, 0)], [(0, 0), (0, 0), (0, 0), (0, 0), (0, 0), (0, 0), (0, 0), (0, 0), (0, 0), (0, 0), (0, 0), (0, 0), (0, 0), (0, 0), (0, 0), (0, 0)], [(0, 0), (0, 0), (0, 0), (0, 0), (0, 0), (0, 0), (0, 0), (0, 0), (0, 0), (0, 0), (0, 0), (0, 0), (0, 0), (0, 0), (0, 0), (0, 0)], [(0, 0), (0, 0), (0, 0), (19, 2), (1, 1), (2, 1)]]
def zhds : List (List (List (Nat × Nat × Nat × Nat))) := [[[], [], [], [], [], [], [], [], [], [], [], [], [], [], [], []], [[], [], [], [], [], [], [], [], [], [], [], [], [], [], [], []], [[], [], [], [], [], [], [], [], [], [], [], [], [], [], [], []], [[], [], [], [], [], [], [], [], [], [], [], [], [], [], [], []], [[], [], [], [], [], [], [], [], [], [], [], [], [], [], [], []], [[], [], [], [], [], [], [], [], [], [], [], [], [], [], [], []], [[], [], [], [], [], [], [], [], [], [], [], [], [], [], [], []], [[], [], [], [], [], [], [], [], [], [], [], [], [], [], [], []], [[], [], [], [], [], [], [], [], [], [], [], [], [], [], [], []], [[], [], [], [], [], [], [], [], [], [], [], [], [], [], [], []], [[], [], [], [], [], [], [], [], [], [], [], [], [], [], [], []], [[], [], [], [], [], [], [], [], [], [], [], [], [], [], [], []], [[], [], [], [], [], [], [], [], [], [], [], [], [], [], [], []], [[], [], [], [], [], [], [], [], [], [], [], [], [], [], [], []], [[], [], [], [], [], [], [], [], [], [], [], [], [], [], [], []], [[], [], [], [], [], [], [], [], [], [], [], [], [], [], [], []], [[], [], [], [], [], [], [], [], [], [], [], [], [], [], [], []], [[], [], [], [], [], [], [], [], [], [], [], [], [], [], [], []], [[], [], [], [], [], []]]
noncomputable abbrev zPr : zP := (zfetch, fun mi => ((zinf[mi / 16]?.getD [])[mi % 16]?).getD (0, 9), fun mi => ((zhds[mi / 16]?.getD [])[mi % 16]?).getD [])
def zym : List (List MethodName) := [[yX0_init, yX0_clashWith, yL_law, yL_law, yX2_init, yL_law, yX3_holdsFor, yX4_init, yX4_append, yX5_init, yX5_hasEnded, yX5_comeTo, yX5_kindNow, yX5_ofNow, yX5_shareNow, yL_law], [yL_law, yX7_init, yX7_empty, yX7_add, yX7_isBad, yX7_slowBucket, yX7_slowBucketAnew, yX7_areNineTenths, yX8_init, yX8_suitsData, yX8_growData, yX9_init, yX9_hasNewerThan, yX9_become, yX9_addUse, yX9_sampleOf], [yX9_takeMeasure, yX9_capitalBehindPair, yX9_judgement, yX9_judgementAnew, yX9_judgementBy, yX9_pairs, yL_law, yX11_init, yX11_artefact, yX11_checkNeeded, yL_law, yX11_isLive, yX11_mayGo, yX11_reasonNotToGo, yX11_fitsToLive, yX11_hasWhatItNeeds], [yX11_forbidden, yX11_program, yX11_step, yX11_checkStep, yX11_release, yX11_releaseUnderWay, yL_law, yX11_stop, yX11_bringToStop, yX11_goesBack, yX11_dropCandidates, yX11_bringToEnd, yX11_countEffects, yX11_state, yX11_at, yX11_why], [yX11_reasonAtStep, yX11_reasonNotToPut, yX11_rivalOf, yX11_isFrozen, yX11_hasRoom, yX11_placesTaken, yX11_placesFor, yX11_placesIn, yX11_isDrained, yX11_pass, yX11_leaveWithTrains, yX11_leaveWith, yX11_takeTurns, yX11_goOn, yX11_doEffect, yX11_put], [yX11_noteStep, yX11_die, yX11_rise, yX11_isDead, yX11_effects, yX11_stable, yX11_candidate, yX11_share, yX11_sees, yX11_seenBy, yX11_seers, yX11_begin, yX11_end, yX11_wayOut, yL_law, yL_law], [yL_law, yL_law, yL_law, yL_law, yL_law, yX11_measure, yX11_capital, yX11_verdict, yX11_verdictByAll, yL_law, yX11_hold, yL_law, yL_law, yX11_zone, yX11_surge, yX11_left], [yL_law, yL_law, yL_law, yL_law, yL_law, yL_law, yL_law, yL_law, yL_law, yL_law, yL_law, yL_law, yL_law, yL_law, yL_law, yL_law], [yL_law, yL_law, yX11_checkNumber, yX11_checkRange, yX11_spotIn, yX11_isIn, yX11_numberOf, yX11_ringOf, yL_law, yL_law, yL_law, yL_law, yL_law, yL_law, yL_law, yL_law], [yL_law, yL_law, yL_law, yL_law, yL_law, yL_law, yL_law, yL_law, yL_law, yL_law, yL_law, yL_law, yL_law, yL_law, yL_law, yL_law], [yL_law, yL_law, yL_law, yL_law, yL_law, yL_law, yL_law, yL_law, yL_law, yL_law, yL_law, yL_law, yL_law, yL_law, yL_law, yL_law], [yL_law, yL_law, yL_law, yL_law, yL_law, yL_law, yL_law, yL_law, yL_law, yL_law, yL_law, yL_law, yL_law, yL_law, yL_law, yL_law], [yL_law, yL_law, yL_law, yL_law, yL_law, yL_law, yL_law, yL_law, yL_law, yL_law, yL_law, yL_law, yL_law, yL_law, yL_law, yL_law], [yL_law, yL_law, yL_law, yL_law, yL_law, yL_law, yL_law, yL_law, yL_law, yL_law, yL_law, yL_law, yL_law, yL_law, yL_law, yL_law], [yL_law, yL_law, yL_law, yL_law, yL_law, yL_law, yL_law, yL_law, yL_law, yL_law, yL_law, yL_law, yL_law, yL_law, yL_law, yL_law], [yL_law, yL_cell, yL_low, yL_isRing, yL_law, yL_law, yL_law, yL_law, yL_law, yL_law, yL_law, yL_law, yL_law, yL_law, yL_law, yL_law], [yL_law, yL_law, yL_law, yL_law, yL_law, yL_law, yL_law, yL_law, yL_law, yL_law, yL_law, yL_law, yL_law, yL_law, yL_law, yL_law], [yL_law, yL_law, yL_law, yL_law, yL_law, yL_law, yL_law, yL_law, yL_law, yL_law, yL_law, yL_law, yL_law, yL_law, yL_law, yL_law], [yL_law, yL_law, yL_law, yL_law, yJ6_bitCount_0f7a4, yJ9_min_7cf53]]
noncomputable def zbm : List (List ByteArray) := [[cX0_init, cX0_clashWith, cL_law, cL_law, cX2_init, cL_law, cX3_holdsFor, cX4_init, cX4_append, cX5_init, cX5_hasEnded, cX5_comeTo, cX5_kindNow, cX5_ofNow, cX5_shareNow, cL_law], [cL_law, cX7_init, cX7_empty, cX7_add, cX7_isBad, cX7_slowBucket, cX7_slowBucketAnew, cX7_areNineTenths, cX8_init, cX8_suitsData, cX8_growData, cX9_init, cX9_hasNewerThan, cX9_become, cX9_addUse, cX9_sampleOf], [cX9_takeMeasure, cX9_capitalBehindPair, cX9_judgement, cX9_judgementAnew, cX9_judgementBy, cX9_pairs, cL_law, cX11_init, cX11_artefact, cX11_checkNeeded, cL_law, cX11_isLive, cX11_mayGo, cX11_reasonNotToGo, cX11_fitsToLive, cX11_hasWhatItNeeds], [cX11_forbidden, cX11_program, cX11_step, cX11_checkStep, cX11_release, cX11_releaseUnderWay, cL_law, cX11_stop, cX11_bringToStop, cX11_goesBack, cX11_dropCandidates, cX11_bringToEnd, cX11_countEffects, cX11_state, cX11_at, cX11_why], [cX11_reasonAtStep, cX11_reasonNotToPut, cX11_rivalOf, cX11_isFrozen, cX11_hasRoom, cX11_placesTaken, cX11_placesFor, cX11_placesIn, cX11_isDrained, cX11_pass, cX11_leaveWithTrains, cX11_leaveWith, cX11_takeTurns, cX11_goOn, cX11_doEffect, cX11_put], [cX11_noteStep, cX11_die, cX11_rise, cX11_isDead, cX11_effects, cX11_stable, cX11_candidate, cX11_share, cX11_sees, cX11_seenBy, cX11_seers, cX11_begin, cX11_end, cX11_wayOut, cL_law, cL_law], [cL_law, cL_law, cL_law, cL_law, cL_law, cX11_measure, cX11_capital, cX11_verdict, cX11_verdictByAll, cL_law, cX11_hold, cL_law, cL_law, cX11_zone, cX11_surge, cX11_left], [cL_law, cL_law, cL_law, cL_law, cL_law, cL_law, cL_law, cL_law, cL_law, cL_law, cL_law, cL_law, cL_law, cL_law, cL_law, cL_law], [cL_law, cL_law, cX11_checkNumber, cX11_checkRange, cX11_spotIn, cX11_isIn, cX11_numberOf, cX11_ringOf, cL_law, cL_law, cL_law, cL_law, cL_law, cL_law, cL_law, cL_law], [cL_law, cL_law, cL_law, cL_law, cL_law, cL_law, cL_law, cL_law, cL_law, cL_law, cL_law, cL_law, cL_law, cL_law, cL_law, cL_law], [cL_law, cL_law, cL_law, cL_law, cL_law, cL_law, cL_law, cL_law, cL_law, cL_law, cL_law, cL_law, cL_law, cL_law, cL_law, cL_law], [cL_law, cL_law, cL_law, cL_law, cL_law, cL_law, cL_law, cL_law, cL_law, cL_law, cL_law, cL_law, cL_law, cL_law, cL_law, cL_law], [cL_law, cL_law, cL_law, cL_law, cL_law, cL_law, cL_law, cL_law, cL_law, cL_law, cL_law, cL_law, cL_law, cL_law, cL_law, cL_law], [cL_law, cL_law, cL_law, cL_law, cL_law, cL_law, cL_law, cL_law, cL_law, cL_law, cL_law, cL_law, cL_law, cL_law, cL_law, cL_law], [cL_law, cL_law, cL_law, cL_law, cL_law, cL_law, cL_law, cL_law, cL_law, cL_law, cL_law, cL_law, cL_law, cL_law, cL_law, cL_law], [cL_law, cL_cell, cL_low, cL_isRing, cL_law, cL_law, cL_law, cL_law, cL_law, cL_law, cL_law, cL_law, cL_law, cL_law, cL_law, cL_law], [cL_law, cL_law, cL_law, cL_law, cL_law, cL_law, cL_law, cL_law, cL_law, cL_law, cL_law, cL_law, cL_law, cL_law, cL_law, cL_law], [cL_law, cL_law, cL_law, cL_law, cL_law, cL_law, cL_law, cL_law, cL_law, cL_law, cL_law, cL_law, cL_law, cL_law, cL_law, cL_law], [cL_law, cL_law, cL_law, cL_law, cJ6_bitCount_0f7a4, cJ9_min_7cf53]]
def zrm2 : List (List (Option FieldType)) := [[none, some .int, some .boolean, some .boolean, none, some .boolean, some .boolean, none, none, none, some .boolean, none, some .int, some .int, some .int, some .boolean], [some .boolean, none, none, none, some .boolean, some .int, some .int, some .boolean, none, some .boolean, none, none, some .boolean, none, none, some (.object "ReleaseHouse$Sample")], [some .int, some .double, some .int, some .int, some .int, some .int, some .boolean, none, some .int, none, some .boolean, some .boolean, some .int, some .int, some .boolean, some .boolean], [some .int, some .int, some .int, none, some .int, some (.object "ReleaseHouse$Release"), some .boolean, some .int, some .int, some .boolean, none, none, none, some .int, some .int, some .int], [some .int, some .int, some (.object "ReleaseHouse$Release"), some .boolean, some .boolean, some .int, some .int, some .int, some .boolean, some .int, none, none, some .int, some .boolean, none, none], [none, none, some .int, some .boolean, some .int, some .int, some .int, some .int, some .int, some (.object "ReleaseHouse$Artefact"), some .int, some .int, some .int, some .int, some .boolean, some .boolean], [some .boolean, some .boolean, some .boolean, some .boolean, some .boolean, some .int, some .double, some .int, some .int, some .boolean, some .boolean, some .boolean, some .boolean, some .boolean, some .int, some .int], [some .boolean, some .boolean, some .boolean, some .boolean, some .boolean, some .boolean, some .boolean, some .boolean, some .boolean, some .boolean, some .boolean, some .boolean, some .boolean, some .boolean, some .boolean, some .boolean], [some .boolean, some .boolean, none, none, some (.object "ReleaseHouse$Spot"), some .boolean, some .int, some .int, some .boolean, some .boolean, some .boolean, some .boolean, some .boolean, some .boolean, some .boolean, some .boolean], [some .boolean, some .boolean, some .boolean, some .boolean, some .boolean, some .boolean, some .boolean, some .boolean, some .boolean, some .boolean, some .boolean, some .boolean, some .boolean, some .boolean, some .boolean, some .boolean], [some .boolean, some .boolean, some .boolean, some .boolean, some .boolean, some .boolean, some .boolean, some .boolean, some .boolean, some .boolean, some .boolean, some .boolean, some .boolean, some .boolean, some .boolean, some .boolean], [some .boolean, some .boolean, some .boolean, some .boolean, some .boolean, some .boolean, some .boolean, some .boolean, some .boolean, some .boolean, some .boolean, some .boolean, some .boolean, some .boolean, some .boolean, some .boolean], [some .boolean, some .boolean, some .boolean, some .boolean, some .boolean, some .boolean, some .boolean, some .boolean, some .boolean, some .boolean, some .boolean, some .boolean, some .boolean, some .boolean, some .boolean, some .boolean], [some .boolean, some .boolean, some .boolean, some .boolean, some .boolean, some .boolean, some .boolean, some .boolean, some .boolean, some .boolean, some .boolean, some .boolean, some .boolean, some .boolean, some .boolean, some .boolean], [some .boolean, some .boolean, some .boolean, some .boolean, some .boolean, some .boolean, some .boolean, some .boolean, some .boolean, some .boolean, some .boolean, some .boolean, some .boolean, some .boolean, some .boolean, some .boolean], [some .boolean, some .int, some .int, some .boolean, some .boolean, some .boolean, some .boolean, some .boolean, some .boolean, some .boolean, some .boolean, some .boolean, some .boolean, some .boolean, some .boolean, some .boolean], [some .boolean, some .boolean, some .boolean, some .boolean, some .boolean, some .boolean, some .boolean, some .boolean, some .boolean, some .boolean, some .boolean, some .boolean, some .boolean, some .boolean, some .boolean, some .boolean], [some .boolean, some .boolean, some .boolean, some .boolean, some .boolean, some .boolean, some .boolean, some .boolean, some .boolean, some .boolean, some .boolean, some .boolean, some .boolean, some .boolean, some .boolean, some .boolean], [some .boolean, some .boolean, some .boolean, some .boolean, some .int, some .int]]
def zhm : List (List (List (Nat × Nat × Nat × Nat))) := [[[], [], [], [], [], [], [], [], [], [], [], [], [], [], [], []], [[], [], [], [], [], [], [], [], [], [], [], [], [], [], [], []], [[], [], [], [], [], [], [], [], [], [], [], [], [], [], [], []], [[], [], [], [], [], [], [], [], [], [], [], [], [], [], [], []], [[], [], [], [], [], [], [], [], [], [], [], [], [], [], [], []], [[], [], [], [], [], [], [], [], [], [], [], [], [], [], [], []], [[], [], [], [], [], [], [], [], [], [], [], [], [], [], [], []], [[], [], [], [], [], [], [], [], [], [], [], [], [], [], [], []], [[], [], [], [], [], [], [], [], [], [], [], [], [], [], [], []], [[], [], [], [], [], [], [], [], [], [], [], [], [], [], [], []], [[], [], [], [], [], [], [], [], [], [], [], [], [], [], [], []], [[], [], [], [], [], [], [], [], [], [], [], [], [], [], [], []], [[], [], [], [], [], [], [], [], [], [], [], [], [], [], [], []], [[], [], [], [], [], [], [], [], [], [], [], [], [], [], [], []], [[], [], [], [], [], [], [], [], [], [], [], [], [], [], [], []], [[], [], [], [], [], [], [], [], [], [], [], [], [], [], [], []], [[], [], [], [], [], [], [], [], [], [], [], [], [], [], [], []], [[], [], [], [], [], [], [], [], [], [], [], [], [], [], [], []], [[], [], [], [], [], []]]
def zfm : List (List Nat) := [[1, 0, 0, 0, 4, 0, 0, 1, 0, 1, 0, 0, 0, 0, 1, 0], [0, 1, 0, 2, 0, 1, 1, 0, 3, 1, 1, 2, 0, 1, 0, 0], [3, 1, 3, 3, 2, 1, 0, 5, 8, 7, 0, 7, 7, 4, 3, 3], [3, 7, 8, 7, 7, 3, 0, 7, 5, 4, 2, 3, 0, 7, 7, 7], [6, 5, 4, 3, 2, 1, 0, 1, 3, 9, 4, 3, 8, 7, 6, 5], [4, 6, 6, 0, 0, 8, 8, 8, 7, 1, 7, 7, 7, 8, 0, 0], [0, 0, 0, 0, 0, 8, 8, 8, 8, 0, 7, 0, 0, 7, 7, 7], [0, 0, 0, 0, 0, 0, 0, 0, 0, 0, 0, 0, 0, 0, 0, 0], [0, 0, 6, 6, 7, 0, 0, 0, 0, 0, 0, 0, 0, 0, 0, 0], [0, 0, 0, 0, 0, 0, 0, 0, 0, 0, 0, 0, 0, 0, 0, 0], [0, 0, 0, 0, 0, 0, 0, 0, 0, 0, 0, 0, 0, 0, 0, 0], [0, 0, 0, 0, 0, 0, 0, 0, 0, 0, 0, 0, 0, 0, 0, 0], [0, 0, 0, 0, 0, 0, 0, 0, 0, 0, 0, 0, 0, 0, 0, 0], [0, 0, 0, 0, 0, 0, 0, 0, 0, 0, 0, 0, 0, 0, 0, 0], [0, 0, 0, 0, 0, 0, 0, 0, 0, 0, 0, 0, 0, 0, 0, 0], [0, 0, 0, 9, 0, 0, 0, 0, 0, 0, 0, 0, 0, 0, 0, 0], [0, 0, 0, 0, 0, 0, 0, 0, 0, 0, 0, 0, 0, 0, 0, 0], [0, 0, 0, 0, 0, 0, 0, 0, 0, 0, 0, 0, 0, 0, 0, 0], [0, 0, 0, 10, 0, 0]]
def zlm : List (List Nat) := [[40, 0, 0, 0, 140, 0, 0, 40, 0, 40, 0, 0, 0, 0, 20, 0], [0, 40, 0, 70, 0, 21, 21, 0, 80, 21, 40, 60, 0, 21, 0, 0], [93, 21, 85, 85, 60, 40, 0, 160, 180, 112, 0, 111, 135, 114, 90, 90], [90, 180, 134, 112, 180, 90, 0, 164, 141, 114, 44, 90, 0, 111, 111, 185], [162, 135, 113, 90, 44, 20, 0, 20, 90, 233, 113, 90, 209, 187, 164, 135], [114, 90, 90, 0, 0, 134, 134, 134, 112, 21, 112, 112, 112, 135, 0, 0], [0, 0, 0, 0, 0, 134, 134, 134, 134, 0, 112, 0, 0, 112, 112, 112], [0, 0, 0, 0, 0, 0, 0, 0, 0, 0, 0, 0, 0, 0, 0, 0], [0, 0, 90, 90, 112, 0, 0, 0, 0, 0, 0, 0, 0, 0, 0, 0], [0, 0, 0, 0, 0, 0, 0, 0, 0, 0, 0, 0, 0, 0, 0, 0], [0, 0, 0, 0, 0, 0, 0, 0, 0, 0, 0, 0, 0, 0, 0, 0], [0, 0, 0, 0, 0, 0, 0, 0, 0, 0, 0, 0, 0, 0, 0, 0], [0, 0, 0, 0, 0, 0, 0, 0, 0, 0, 0, 0, 0, 0, 0, 0], [0, 0, 0, 0, 0, 0, 0, 0, 0, 0, 0, 0, 0, 0, 0, 0], [0, 0, 0, 0, 0, 0, 0, 0, 0, 0, 0, 0, 0, 0, 0, 0], [0, 0, 0, 160, 0, 0, 0, 0, 0, 0, 0, 0, 0, 0, 0, 0], [0, 0, 0, 0, 0, 0, 0, 0, 0, 0, 0, 0, 0, 0, 0, 0], [0, 0, 0, 0, 0, 0, 0, 0, 0, 0, 0, 0, 0, 0, 0, 0], [0, 0, 0, 257, 0, 0]]
noncomputable abbrev zMt : zT := (fun mi => ((zym[mi / 16]?.getD [])[mi % 16]?).getD ⟨"", "", ""⟩, fun mi => ((zbm[mi / 16]?.getD [])[mi % 16]?).getD ⟨#[]⟩, fun mi => ((zrm2[mi / 16]?.getD [])[mi % 16]?).getD none, fun mi => ((zhm[mi / 16]?.getD [])[mi % 16]?).getD [], fun mi => ((zfm[mi / 16]?.getD [])[mi % 16]?).getD 0, fun mi => ((zlm[mi / 16]?.getD [])[mi % 16]?).getD 0)
-- fields' links: the class that asks, the entry, the class, the field, the word's place
def zTF : List (Nat × Nat × Nat × Nat × Nat) := [(0, 9, 0, 11, 401), (0, 15, 0, 0, 377), (0, 19, 0, 1, 380), (0, 22, 0, 2, 382), (0, 25, 0, 6, 389), (0, 28, 0, 7, 392), (0, 31, 0, 5, 387), (0, 34, 0, 4, 385), (0, 37, 0, 3, 383), (2, 12, 2, 0, 195), (2, 18, 2, 2, 196), (3, 22, 0, 8, 395), (3, 28, 0, 9, 397), (4, 9, 4, 0, 553), (4, 15, 4, 1, 555), (4, 18, 4, 2, 557), (4, 21, 4, 3, 559), (5, 9, 5, 2, 611), (5, 15, 5, 9, 622), (5, 21, 5, 10, 624), (5, 25, 5, 0, 607), (5, 29, 5, 1, 609), (5, 33, 5, 4, 615), (5, 36, 5, 3, 613), (5, 39, 5, 8, 620), (5, 43, 4, 3, 560), (5, 48, 4, 0, 554), (5, 52, 4, 1, 556), (5, 59, 4, 2, 558), (7, 9, 7, 0, 117), (7, 15, 7, 3, 121), (7, 18, 7, 1, 118), (7, 22, 7, 2, 120), (8, 11, 8, 0, 161), (8, 17, 8, 1, 163), (8, 23, 8, 2, 164), (8, 27, 8, 3, 166), (8, 31, 8, 4, 167), (8, 34, 8, 5, 168), (8, 38, 0, 7, 393), (8, 45, 0, 6, 390), (8, 48, 9, 0, 133), (8, 52, 9, 1, 136), (8, 61, 8, 6, 169), (9, 9, 9, 4, 142), (9, 18, 9, 5, 144), (9, 22, 9, 6, 145), (9, 25, 9, 0, 132), (9, 29, 0, 0, 378), (9, 35, 9, 1, 135), (9, 38, 9, 2, 138), (9, 41, 9, 3, 140), (9, 52, 0, 10, 399), (9, 63, 7, 1, 119), (11, 10, 11, 0, 208), (11, 16, 11, 1, 209), (11, 19, 11, 2, 210), (11, 22, 11, 3, 211), (11, 25, 11, 4, 212), (11, 28, 11, 5, 213), (11, 33, 11, 6, 214), (11, 39, 11, 7, 215), (11, 43, 11, 8, 216), (11, 47, 11, 9, 217), (11, 50, 11, 10, 218), (11, 53, 11, 12, 220), (11, 92, 0, 3, 384), (11, 95, 0, 4, 386), (11, 98, 0, 5, 388), (11, 101, 0, 6, 391), (11, 104, 0, 7, 394), (11, 107, 0, 8, 396), (11, 111, 0, 9, 398), (11, 118, 0, 0, 379), (11, 135, 0, 10, 400), (11, 145, 0, 1, 381), (11, 163, 4, 3, 561), (11, 166, 4, 4, 562), (11, 184, 11, 11, 219), (11, 190, 5, 0, 608), (11, 201, 5, 5, 617), (11, 226, 5, 9, 623), (11, 238, 8, 0, 162), (11, 242, 9, 0, 134), (11, 247, 5, 10, 625), (11, 251, 9, 1, 137), (11, 254, 9, 2, 139), (11, 261, 5, 2, 612), (11, 267, 9, 3, 141), (11, 270, 11, 14, 222), (11, 273, 5, 3, 614), (11, 276, 11, 13, 221), (11, 295, 5, 4, 616), (11, 301, 5, 8, 621), (11, 310, 8, 7, 170), (11, 324, 5, 6, 618), (11, 350, 0, 11, 402), (11, 375, 5, 7, 619), (11, 394, 5, 1, 610), (11, 413, 8, 2, 165), (11, 418, 11, 15, 223), (11, 457, 11, 16, 224), (11, 466, 9, 4, 143)]
def zTN : List (Nat × Nat × Nat × Nat × Nat × Nat) := [(8, 9, 9, 102, 106, 40), (9, 15, 7, 111, 112, 41), (11, 31, 8, 93, 97, 39), (11, 37, 2, 95, 188, 42), (11, 88, 0, 371, 372, 56), (11, 157, 4, 547, 548, 47), (11, 182, 5, 595, 601, 57), (13, 9, 11, 59, 60, 35)]
def zTL : List (Nat × Nat × Nat × Nat × Nat) := [(2, 9, 193, 68, 38), (11, 7, 67, 68, 38)]
def zTA : List (Nat × Nat × Nat × Nat) := [(5, 19, 0, 606), (8, 9, 9, 102), (8, 21, 0, 104), (11, 31, 8, 93), (11, 37, 2, 95)]
def zTC : List (Nat × Nat × Nat × Nat) := [(11, 88, 0, 371), (11, 157, 4, 547), (11, 182, 5, 595)]
def zTK : List (Nat × Nat × Nat × Nat) := [(11, 456, 60000, 905), (13, 7, 2147483647, 961), (14, 265, 1431655765, 767), (14, 266, 858993459, 768), (14, 267, 252645135, 769)]
def zTD : List (Nat × Nat × Nat × Nat) := [(9, 74, 4626322717216342016, 799), (9, 76, 4609434218613702656, 937), (9, 78, 4602678819172646912, 938)]
-- calls: the class that asks, the entry, the method, the kind, how many arguments, the class, the words' places: link, method, selects or static, initialized, code
def zTM : List (List Nat) := [[5, 55, 12, 0, 1, 5, 727, 720, 721, 57, 722], [7, 31, 23, 0, 2, 7, 786, 788, 20, 41, 789], [8, 37, 27, 4, 1, 9, 0, 108, 0, 40, 109], [8, 41, 133, 3, 2, 99, 0, 342, 0, 35, 343], [9, 17, 17, 4, 1, 7, 0, 114, 0, 41, 115], [9, 45, 18, 0, 1, 7, 667, 668, 669, 41, 670], [9, 48, 30, 1, 2, 99, 671, 672, 0, 40, 673], [9, 55, 31, 0, 2, 9, 911, 912, 913, 40, 914], [9, 59, 19, 0, 3, 7, 915, 916, 917, 41, 918], [9, 66, 33, 0, 3, 9, 929, 931, 33, 40, 932], [9, 70, 20, 0, 2, 7, 933, 934, 935, 41, 936], [9, 80, 21, 0, 1, 7, 782, 783, 784, 41, 785], [9, 84, 36, 0, 4, 9, 790, 792, 21, 40, 793], [9, 88, 37, 0, 1, 9, 794, 796, 22, 40, 797], [9, 91, 22, 0, 1, 7, 981, 982, 983, 41, 984], [11, 57, 24, 2, 1, 8, 98, 99, 0, 39, 100], [11, 58, 4, 4, 1, 2, 0, 190, 0, 42, 191], [11, 59, 131, 1, 3, 99, 266, 267, 0, 35, 268], [11, 63, 41, 1, 3, 99, 337, 338, 0, 35, 339], [11, 66, 133, 1, 2, 99, 341, 342, 0, 35, 343], [11, 90, 0, 2, 4, 0, 373, 374, 0, 56, 375], [11, 123, 130, 1, 2, 99, 496, 497, 0, 35, 498], [11, 131, 1, 0, 2, 0, 538, 539, 540, 56, 541], [11, 138, 45, 0, 2, 11, 770, 772, 18, 35, 773], [11, 141, 46, 0, 3, 11, 678, 680, 8, 35, 681], [11, 148, 25, 0, 2, 8, 682, 683, 684, 39, 685], [11, 152, 47, 0, 2, 11, 774, 776, 19, 35, 777], [11, 159, 7, 4, 1, 4, 0, 550, 0, 47, 551], [11, 160, 51, 1, 3, 99, 578, 579, 0, 35, 580], [11, 171, 8, 0, 4, 4, 583, 584, 585, 47, 586], [11, 176, 53, 0, 2, 11, 591, 593, 4, 35, 594], [11, 187, 9, 2, 4, 5, 602, 603, 0, 57, 604], [11, 194, 10, 0, 1, 5, 596, 597, 598, 57, 599], [11, 206, 292, 1, 1, 99, 764, 765, 0, 58, 766], [11, 214, 56, 0, 2, 11, 655, 657, 5, 35, 658], [11, 218, 60, 0, 2, 11, 695, 697, 10, 35, 698], [11, 222, 58, 0, 2, 11, 659, 661, 6, 35, 662], [11, 230, 57, 0, 3, 11, 674, 676, 7, 35, 677], [11, 234, 59, 0, 3, 11, 687, 689, 9, 35, 690], [11, 257, 29, 0, 4, 9, 663, 664, 665, 40, 666], [11, 264, 11, 0, 3, 5, 691, 692, 693, 57, 694], [11, 279, 64, 0, 2, 11, 711, 713, 11, 35, 714], [11, 282, 13, 0, 1, 5, 715, 716, 717, 57, 718], [11, 285, 12, 0, 1, 5, 719, 720, 721, 57, 722], [11, 288, 14, 0, 1, 5, 723, 724, 725, 57, 726], [11, 291, 65, 0, 4, 11, 728, 730, 12, 35, 731], [11, 298, 34, 0, 1, 9, 778, 779, 780, 40, 781], [11, 304, 72, 0, 3, 11, 800, 802, 23, 35, 803], [11, 307, 28, 0, 2, 9, 732, 733, 734, 40, 735], [11, 313, 67, 0, 3, 11, 736, 738, 13, 35, 739], [11, 316, 66, 0, 3, 11, 745, 747, 14, 35, 748], [11, 320, 68, 0, 5, 11, 749, 751, 15, 35, 752], [11, 341, 69, 0, 2, 11, 753, 755, 16, 35, 756], [11, 344, 70, 1, 1, 99, 757, 758, 0, 35, 759], [11, 347, 71, 0, 2, 11, 760, 762, 17, 35, 763], [11, 355, 26, 0, 1, 8, 809, 810, 811, 39, 812], [11, 358, 74, 0, 1, 11, 814, 816, 24, 35, 817], [11, 361, 76, 0, 2, 11, 823, 825, 26, 35, 826], [11, 368, 75, 0, 2, 11, 819, 821, 25, 35, 822], [11, 379, 77, 0, 2, 11, 827, 829, 27, 35, 830], [11, 383, 78, 0, 2, 11, 831, 833, 28, 35, 834], [11, 387, 80, 0, 2, 11, 839, 841, 30, 35, 842], [11, 390, 79, 0, 4, 11, 835, 837, 29, 35, 838], [11, 402, 132, 0, 3, 11, 865, 867, 31, 35, 868], [11, 406, 134, 1, 1, 99, 869, 870, 0, 35, 871], [11, 409, 89, 0, 3, 11, 880, 882, 32, 35, 883], [11, 415, 135, 1, 1, 99, 884, 885, 0, 35, 886], [11, 462, 32, 0, 4, 9, 907, 908, 909, 40, 910], [11, 470, 35, 0, 1, 9, 977, 978, 979, 40, 980], [13, 8, 85, 0, 3, 11, 861, 862, 863, 35, 864], [13, 14, 86, 0, 3, 11, 872, 873, 874, 35, 875], [13, 17, 87, 0, 3, 11, 965, 966, 967, 35, 968], [13, 20, 43, 0, 2, 11, 492, 493, 494, 35, 495], [13, 24, 103, 0, 3, 11, 969, 970, 971, 35, 972], [13, 27, 104, 0, 3, 11, 973, 974, 975, 35, 976], [13, 30, 102, 0, 3, 11, 985, 986, 987, 35, 988], [13, 34, 93, 0, 3, 11, 989, 990, 991, 35, 992], [13, 37, 44, 0, 2, 11, 993, 994, 995, 35, 996], [13, 41, 39, 2, 1, 11, 61, 62, 0, 35, 63], [13, 42, 241, 1, 2, 99, 955, 956, 0, 34, 957], [13, 48, 242, 1, 2, 99, 958, 959, 0, 34, 960], [13, 51, 49, 0, 1, 11, 542, 543, 544, 35, 545], [13, 55, 50, 0, 5, 11, 574, 575, 576, 35, 577], [13, 59, 40, 0, 10, 11, 262, 263, 264, 35, 265], [13, 63, 52, 0, 3, 11, 587, 588, 589, 35, 590], [13, 66, 61, 0, 2, 11, 699, 700, 701, 35, 702], [13, 69, 62, 0, 2, 11, 703, 704, 705, 35, 706], [13, 72, 73, 0, 2, 11, 804, 805, 806, 35, 807], [13, 75, 55, 0, 2, 11, 650, 651, 652, 35, 653], [13, 78, 63, 0, 2, 11, 707, 708, 709, 35, 710], [13, 81, 88, 0, 3, 11, 876, 877, 878, 35, 879], [13, 84, 91, 0, 3, 11, 891, 892, 893, 35, 894], [13, 87, 92, 0, 3, 11, 896, 897, 898, 35, 899], [13, 90, 101, 0, 6, 11, 901, 902, 903, 35, 904], [13, 94, 106, 0, 2, 11, 939, 940, 941, 35, 942], [13, 97, 111, 0, 2, 11, 951, 952, 953, 35, 954], [13, 100, 109, 0, 3, 11, 943, 944, 945, 35, 946], [13, 104, 110, 0, 3, 11, 947, 948, 949, 35, 950], [13, 107, 83, 0, 1, 11, 853, 854, 855, 35, 856], [13, 111, 82, 0, 1, 11, 848, 849, 850, 35, 851], [13, 114, 81, 0, 2, 11, 843, 844, 845, 35, 846], [13, 118, 90, 0, 3, 11, 887, 888, 889, 35, 890], [13, 121, 48, 0, 1, 11, 534, 535, 536, 35, 537], [13, 124, 84, 0, 1, 11, 857, 858, 859, 35, 860], [13, 127, 243, 1, 3, 99, 962, 963, 0, 34, 964]]
def zow : List (List Nat) := [[0, 0, 13, 13, 2, 13, 3, 4, 4, 5, 5, 5, 5, 5, 5, 13], [13, 7, 7, 7, 7, 7, 7, 7, 8, 8, 8, 9, 9, 9, 9, 9], [9, 9, 9, 9, 9, 9, 13, 11, 11, 11, 13, 11, 11, 11, 11, 11], [11, 11, 11, 11, 11, 11, 13, 11, 11, 11, 11, 11, 11, 11, 11, 11], [11, 11, 11, 11, 11, 11, 11, 11, 11, 11, 11, 11, 11, 11, 11, 11], [11, 11, 11, 11, 11, 11, 11, 11, 11, 11, 11, 11, 11, 11, 13, 13], [13, 13, 13, 13, 13, 11, 11, 11, 11, 13, 11, 13, 13, 11, 11, 11], [13, 13, 13, 13, 13, 13, 13, 13, 13, 13, 13, 13, 13, 13, 13, 13], [13, 13, 11, 11, 11, 11, 11, 11, 13, 13, 13, 13, 13, 13, 13, 13], [13, 13, 13, 13, 13, 13, 13, 13, 13, 13, 13, 13, 13, 13, 13, 13], [13, 13, 13, 13, 13, 13, 13, 13, 13, 13, 13, 13, 13, 13, 13, 13], [13, 13, 13, 13, 13, 13, 13, 13, 13, 13, 13, 13, 13, 13, 13, 13], [13, 13, 13, 13, 13, 13, 13, 13, 13, 13, 13, 13, 13, 13, 13, 13], [13, 13, 13, 13, 13, 13, 13, 13, 13, 13, 13, 13, 13, 13, 13, 13], [13, 13, 13, 13, 13, 13, 13, 13, 13, 13, 13, 13, 13, 13, 13, 13], [13, 13, 13, 13, 13, 13, 13, 13, 13, 13, 13, 13, 13, 13, 13, 13], [13, 13, 13, 13, 13, 13, 13, 13, 13, 13, 13, 13, 13, 13, 13, 13], [13, 13, 13, 13, 13, 13, 13, 13, 13, 13, 13, 13, 13, 13, 13, 13], [13, 13, 13, 13, 14, 15]]
def zon (mi : Nat) : Nat := ((zow[mi / 16]?.getD [])[mi % 16]?).getD 99
def zcn : List String := [RX0, RX1, RX2, RX3, RX4, RX5, RX6, RX7, RX8, RX9, RX10, RX11, RX12, RL, "java/lang/Integer", "java/lang/Math"]
