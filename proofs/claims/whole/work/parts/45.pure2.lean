section STEPS
variable (K : Int32 → Int32 → Int32 → BS → Int32 × BS) (n : Int32) (u : BS)
theorem go_0_0 (h : b_fl u = 0) : f_X0_start K 0 0 n u = f_X0_start_k40 K 0 n 0 (f_X2_write (10 * 0 + 0) u) := st_go (by decide +kernel) (by decide) h
theorem go_0_1 (h : b_fl u = 0) : f_X0_start K 1 0 n u = f_X0_start_k40 K 0 n 0 (f_X2_write (10 * 0 + 0) u) := st_go (by decide +kernel) (by decide) h
theorem go_0_2 (h : b_fl u = 0) : f_X0_start K 2 0 n u = f_X0_start_k40 K 0 n 2 (f_X2_write (10 * 2 + 0) u) := st_go (by decide +kernel) (by decide) h
theorem go_0_3 (h : b_fl u = 0) : f_X0_start K 3 0 n u = f_X0_start_k40 K 0 n 2 (f_X2_write (10 * 2 + 0) u) := st_go (by decide +kernel) (by decide) h
theorem go_0_4 (h : b_fl u = 0) : f_X0_start K 4 0 n u = f_X0_start_k40 K 0 n 4 (f_X2_write (10 * 4 + 0) u) := st_go (by decide +kernel) (by decide) h
theorem go_0_5 (h : b_fl u = 0) : f_X0_start K 5 0 n u = f_X0_start_k40 K 0 n 4 (f_X2_write (10 * 4 + 0) u) := st_go (by decide +kernel) (by decide) h
theorem go_0_6 (h : b_fl u = 0) : f_X0_start K 6 0 n u = f_X0_start_k40 K 0 n 6 (f_X2_write (10 * 6 + 0) u) := st_go (by decide +kernel) (by decide) h
theorem go_0_7 (h : b_fl u = 0) : f_X0_start K 7 0 n u = f_X0_start_k40 K 0 n 6 (f_X2_write (10 * 6 + 0) u) := st_go (by decide +kernel) (by decide) h
theorem go_0_8 (h : b_fl u = 0) : f_X0_start K 8 0 n u = f_X0_start_k40 K 0 n 6 (f_X2_write (10 * 6 + 0) u) := st_go (by decide +kernel) (by decide) h
theorem go_0_9 (h : b_fl u = 0) : f_X0_start K 9 0 n u = f_X0_start_k40 K 0 n 9 (f_X2_write (10 * 9 + 0) u) := st_go (by decide +kernel) (by decide) h
theorem go_1_0 (h : b_fl u = 0) : f_X0_start K 0 1 n u = f_X0_start_k40 K 1 n 0 (f_X2_write (10 * 0 + 1) u) := st_go (by decide +kernel) (by decide) h
theorem go_1_1 (h : b_fl u = 0) : f_X0_start K 1 1 n u = f_X0_start_k40 K 1 n 1 (f_X2_write (10 * 1 + 1) u) := st_go (by decide +kernel) (by decide) h
theorem go_1_2 (h : b_fl u = 0) : f_X0_start K 2 1 n u = f_X0_start_k40 K 1 n 1 (f_X2_write (10 * 1 + 1) u) := st_go (by decide +kernel) (by decide) h
theorem go_1_3 (h : b_fl u = 0) : f_X0_start K 3 1 n u = f_X0_start_k40 K 1 n 3 (f_X2_write (10 * 3 + 1) u) := st_go (by decide +kernel) (by decide) h
theorem go_1_4 (h : b_fl u = 0) : f_X0_start K 4 1 n u = f_X0_start_k40 K 1 n 3 (f_X2_write (10 * 3 + 1) u) := st_go (by decide +kernel) (by decide) h
theorem go_1_5 (h : b_fl u = 0) : f_X0_start K 5 1 n u = f_X0_start_k40 K 1 n 5 (f_X2_write (10 * 5 + 1) u) := st_go (by decide +kernel) (by decide) h
theorem go_1_6 (h : b_fl u = 0) : f_X0_start K 6 1 n u = f_X0_start_k40 K 1 n 0 (f_X2_write (10 * 0 + 1) u) := st_go (by decide +kernel) (by decide) h
theorem go_1_7 (h : b_fl u = 0) : f_X0_start K 7 1 n u = f_X0_start_k40 K 1 n 7 (f_X2_write (10 * 7 + 1) u) := st_go (by decide +kernel) (by decide) h
theorem go_1_8 (h : b_fl u = 0) : f_X0_start K 8 1 n u = f_X0_start_k40 K 1 n 7 (f_X2_write (10 * 7 + 1) u) := st_go (by decide +kernel) (by decide) h
theorem go_1_9 (h : b_fl u = 0) : f_X0_start K 9 1 n u = f_X0_start_k40 K 1 n 9 (f_X2_write (10 * 9 + 1) u) := st_go (by decide +kernel) (by decide) h
theorem go_2_0 (h : b_fl u = 0) : f_X0_start K 0 2 n u = f_X0_start_k40 K 2 n 0 (f_X2_write (10 * 0 + 2) u) := st_go (by decide +kernel) (by decide) h
theorem go_2_1 (h : b_fl u = 0) : f_X0_start K 1 2 n u = f_X0_start_k40 K 2 n 0 (f_X2_write (10 * 0 + 2) u) := st_go (by decide +kernel) (by decide) h
theorem go_2_2 (h : b_fl u = 0) : f_X0_start K 2 2 n u = f_X0_start_k40 K 2 n 2 (f_X2_write (10 * 2 + 2) u) := st_go (by decide +kernel) (by decide) h
theorem go_2_3 (h : b_fl u = 0) : f_X0_start K 3 2 n u = f_X0_start_k40 K 2 n 2 (f_X2_write (10 * 2 + 2) u) := st_go (by decide +kernel) (by decide) h
theorem go_2_4 (h : b_fl u = 0) : f_X0_start K 4 2 n u = f_X0_start_k40 K 2 n 4 (f_X2_write (10 * 4 + 2) u) := st_go (by decide +kernel) (by decide) h
theorem go_2_5 (h : b_fl u = 0) : f_X0_start K 5 2 n u = f_X0_start_k40 K 2 n 4 (f_X2_write (10 * 4 + 2) u) := st_go (by decide +kernel) (by decide) h
theorem go_2_6 (h : b_fl u = 0) : f_X0_start K 6 2 n u = f_X0_start_k40 K 2 n 6 (f_X2_write (10 * 6 + 2) u) := st_go (by decide +kernel) (by decide) h
theorem go_2_7 (h : b_fl u = 0) : f_X0_start K 7 2 n u = f_X0_start_k40 K 2 n 6 (f_X2_write (10 * 6 + 2) u) := st_go (by decide +kernel) (by decide) h
theorem go_2_8 (h : b_fl u = 0) : f_X0_start K 8 2 n u = f_X0_start_k40 K 2 n 8 (f_X2_write (10 * 8 + 2) u) := st_go (by decide +kernel) (by decide) h
theorem go_2_9 (h : b_fl u = 0) : f_X0_start K 9 2 n u = f_X0_start_k40 K 2 n 9 (f_X2_write (10 * 9 + 2) u) := st_go (by decide +kernel) (by decide) h
theorem go_3_0 (h : b_fl u = 0) : f_X0_start K 0 3 n u = f_X0_start_k40 K 3 n 0 (f_X2_write (10 * 0 + 3) u) := st_go (by decide +kernel) (by decide) h
theorem go_3_1 (h : b_fl u = 0) : f_X0_start K 1 3 n u = f_X0_start_k40 K 3 n 0 (f_X2_write (10 * 0 + 3) u) := st_go (by decide +kernel) (by decide) h
theorem go_3_2 (h : b_fl u = 0) : f_X0_start K 2 3 n u = f_X0_start_k40 K 3 n 2 (f_X2_write (10 * 2 + 3) u) := st_go (by decide +kernel) (by decide) h
theorem go_3_3 (h : b_fl u = 0) : f_X0_start K 3 3 n u = f_X0_start_k40 K 3 n 2 (f_X2_write (10 * 2 + 3) u) := st_go (by decide +kernel) (by decide) h
theorem go_3_4 (h : b_fl u = 0) : f_X0_start K 4 3 n u = f_X0_start_k40 K 3 n 4 (f_X2_write (10 * 4 + 3) u) := st_go (by decide +kernel) (by decide) h
theorem go_3_5 (h : b_fl u = 0) : f_X0_start K 5 3 n u = f_X0_start_k40 K 3 n 4 (f_X2_write (10 * 4 + 3) u) := st_go (by decide +kernel) (by decide) h
theorem go_3_6 (h : b_fl u = 0) : f_X0_start K 6 3 n u = f_X0_start_k40 K 3 n 0 (f_X2_write (10 * 0 + 3) u) := st_go (by decide +kernel) (by decide) h
theorem go_3_7 (h : b_fl u = 0) : f_X0_start K 7 3 n u = f_X0_start_k40 K 3 n 7 (f_X2_write (10 * 7 + 3) u) := st_go (by decide +kernel) (by decide) h
theorem go_3_8 (h : b_fl u = 0) : f_X0_start K 8 3 n u = f_X0_start_k40 K 3 n 8 (f_X2_write (10 * 8 + 3) u) := st_go (by decide +kernel) (by decide) h
theorem go_3_9 (h : b_fl u = 0) : f_X0_start K 9 3 n u = f_X0_start_k40 K 3 n 9 (f_X2_write (10 * 9 + 3) u) := st_go (by decide +kernel) (by decide) h
theorem go_4_0 (h : b_fl u = 0) : f_X0_start K 0 4 n u = f_X0_start_k40 K 4 n 0 (f_X2_write (10 * 0 + 4) u) := st_go (by decide +kernel) (by decide) h
theorem go_4_1 (h : b_fl u = 0) : f_X0_start K 1 4 n u = f_X0_start_k40 K 4 n 0 (f_X2_write (10 * 0 + 4) u) := st_go (by decide +kernel) (by decide) h
theorem go_4_2 (h : b_fl u = 0) : f_X0_start K 2 4 n u = f_X0_start_k40 K 4 n 0 (f_X2_write (10 * 0 + 4) u) := st_go (by decide +kernel) (by decide) h
theorem go_4_3 (h : b_fl u = 0) : f_X0_start K 3 4 n u = f_X0_start_k40 K 4 n 3 (f_X2_write (10 * 3 + 4) u) := st_go (by decide +kernel) (by decide) h
theorem go_4_4 (h : b_fl u = 0) : f_X0_start K 4 4 n u = f_X0_start_k40 K 4 n 3 (f_X2_write (10 * 3 + 4) u) := st_go (by decide +kernel) (by decide) h
theorem go_4_5 (h : b_fl u = 0) : f_X0_start K 5 4 n u = f_X0_start_k40 K 4 n 5 (f_X2_write (10 * 5 + 4) u) := st_go (by decide +kernel) (by decide) h
theorem go_4_6 (h : b_fl u = 0) : f_X0_start K 6 4 n u = f_X0_start_k40 K 4 n 0 (f_X2_write (10 * 0 + 4) u) := st_go (by decide +kernel) (by decide) h
theorem go_4_7 (h : b_fl u = 0) : f_X0_start K 7 4 n u = f_X0_start_k40 K 4 n 0 (f_X2_write (10 * 0 + 4) u) := st_go (by decide +kernel) (by decide) h
theorem go_4_8 (h : b_fl u = 0) : f_X0_start K 8 4 n u = f_X0_start_k40 K 4 n 8 (f_X2_write (10 * 8 + 4) u) := st_go (by decide +kernel) (by decide) h
theorem go_4_9 (h : b_fl u = 0) : f_X0_start K 9 4 n u = f_X0_start_k40 K 4 n 8 (f_X2_write (10 * 8 + 4) u) := st_go (by decide +kernel) (by decide) h
theorem go_5_3 (h : b_fl u = 0) : f_X0_start K 3 5 n u = f_X0_start_k40 K 5 n 0 (f_X2_write (10 * 0 + 5) u) := st_go (by decide +kernel) (by decide) h
theorem go_5_4 (h : b_fl u = 0) : f_X0_start K 4 5 n u = f_X0_start_k40 K 5 n 0 (f_X2_write (10 * 0 + 5) u) := st_go (by decide +kernel) (by decide) h
theorem go_5_5 (h : b_fl u = 0) : f_X0_start K 5 5 n u = f_X0_start_k40 K 5 n 5 (f_X2_write (10 * 5 + 5) u) := st_go (by decide +kernel) (by decide) h
theorem go_5_7 (h : b_fl u = 0) : f_X0_start K 7 5 n u = f_X0_start_k40 K 5 n 0 (f_X2_write (10 * 0 + 5) u) := st_go (by decide +kernel) (by decide) h
theorem go_5_8 (h : b_fl u = 0) : f_X0_start K 8 5 n u = f_X0_start_k40 K 5 n 0 (f_X2_write (10 * 0 + 5) u) := st_go (by decide +kernel) (by decide) h
theorem go_5_9 (h : b_fl u = 0) : f_X0_start K 9 5 n u = f_X0_start_k40 K 5 n 0 (f_X2_write (10 * 0 + 5) u) := st_go (by decide +kernel) (by decide) h
theorem go_6_3 (h : b_fl u = 0) : f_X0_start K 3 6 n u = f_X0_start_k40 K 6 n 3 (f_X2_write (10 * 3 + 6) u) := st_go (by decide +kernel) (by decide) h
theorem go_6_4 (h : b_fl u = 0) : f_X0_start K 4 6 n u = f_X0_start_k40 K 6 n 3 (f_X2_write (10 * 3 + 6) u) := st_go (by decide +kernel) (by decide) h
theorem go_6_5 (h : b_fl u = 0) : f_X0_start K 5 6 n u = f_X0_start_k40 K 6 n 5 (f_X2_write (10 * 5 + 6) u) := st_go (by decide +kernel) (by decide) h
theorem go_6_7 (h : b_fl u = 0) : f_X0_start K 7 6 n u = f_X0_start_k40 K 6 n 7 (f_X2_write (10 * 7 + 6) u) := st_go (by decide +kernel) (by decide) h
theorem go_6_8 (h : b_fl u = 0) : f_X0_start K 8 6 n u = f_X0_start_k40 K 6 n 7 (f_X2_write (10 * 7 + 6) u) := st_go (by decide +kernel) (by decide) h
theorem go_6_9 (h : b_fl u = 0) : f_X0_start K 9 6 n u = f_X0_start_k40 K 6 n 9 (f_X2_write (10 * 9 + 6) u) := st_go (by decide +kernel) (by decide) h
theorem aa_1 (mb : Int32) : f_X0_askAbove K 1 mb n u = K 0 mb n u := aa_go (by decide) (by decide +kernel)
theorem aa_2 (mb : Int32) : f_X0_askAbove K 2 mb n u = K 1 mb n u := aa_go (by decide) (by decide +kernel)
theorem aa_3 (mb : Int32) : f_X0_askAbove K 3 mb n u = K 2 mb n u := aa_go (by decide) (by decide +kernel)
theorem aa_4 (mb : Int32) : f_X0_askAbove K 4 mb n u = K 3 mb n u := aa_go (by decide) (by decide +kernel)
theorem aa_5 (mb : Int32) : f_X0_askAbove K 5 mb n u = K 4 mb n u := aa_go (by decide) (by decide +kernel)
theorem aa_6 (mb : Int32) : f_X0_askAbove K 6 mb n u = K 0 mb n u := aa_go (by decide) (by decide +kernel)
theorem aa_7 (mb : Int32) : f_X0_askAbove K 7 mb n u = K 6 mb n u := aa_go (by decide) (by decide +kernel)
theorem aa_8 (mb : Int32) : f_X0_askAbove K 8 mb n u = K 7 mb n u := aa_go (by decide) (by decide +kernel)
theorem aa_9 (mb : Int32) : f_X0_askAbove K 9 mb n u = K 8 mb n u := aa_go (by decide) (by decide +kernel)
end STEPS
