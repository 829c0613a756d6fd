def cl_10 : Cd := [(1482, (.iconst 1, 1483, 0, 0, 0, 0)), (1483, (.iadd, 1484, 0, 0, 0, 0)), (1484, (.iaload, 1485, 0, 0, 0, 0)), (1485, (.invokevirtual 201, 1488, 233, 2, 13, 0)), (1488, (.if_icmp .eq 5, 1491, 1493, 0, 0, 0)), (1491, (.iconst 0, 1492, 0, 0, 0, 0)), (1492, (.ireturn, 1493, 0, 0, 0, 0)), (1493, (.iinc 3 4, 1496, 0, 0, 0, 0)), (1496, (.goto (-1478), 1499, 18, 0, 0, 0)), (1499, (.iconst 1, 1500, 0, 0, 0, 0)), (1500, (.ireturn, 1501, 0, 0, 0, 0))]
set_option maxRecDepth 20000 in
theorem ck_L_10 : chk 15 false 2 cL_law 4 6 145 cl_10 = true := by decide +kernel
