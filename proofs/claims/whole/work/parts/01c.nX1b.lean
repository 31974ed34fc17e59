theorem dX1_suspects_49 : decode cX1_suspects 49 = .ok (.istore_n 1, 1) := by decide +kernel
theorem dX1_suspects_50 : decode cX1_suspects 50 = .ok (.iinc 2 1, 3) := by decide +kernel
theorem dX1_suspects_53 : decode cX1_suspects 53 = .ok (.goto (-49), 3) := by decide +kernel
theorem dX1_suspects_56 : decode cX1_suspects 56 = .ok (.iload_n 1, 1) := by decide +kernel
theorem dX1_suspects_57 : decode cX1_suspects 57 = .ok (.ireturn, 1) := by decide +kernel
set_option maxRecDepth 20000 in
theorem ggX2_init_X1_init : GoodIn wsX2_init wsX1_init := goodIn_r _ [15, 16, 2, 3, 17, 8, 18, 19, 20, 21, 22, 23, 24, 25, 26, 27, 28, 29, 30, 31, 32, 33] (by decide +kernel) (by decide +kernel)
set_option maxRecDepth 20000 in
theorem gX2_init_X1_init : GoodIn wsX2_init (wsX1_init) := ggX2_init_X1_init
