theorem dL_house_896 : decode cL_house 896 = .ok (.invokevirtual 20, 3) := by decide +kernel
theorem dL_house_899 : decode cL_house 899 = .ok (.iconst 1, 1) := by decide +kernel
theorem dL_house_900 : decode cL_house 900 = .ok (.if_icmp .ne 87, 3) := by decide +kernel
theorem dL_house_903 : decode cL_house 903 = .ok (.aload_n 0, 1) := by decide +kernel
theorem dL_house_904 : decode cL_house 904 = .ok (.iconst 0, 1) := by decide +kernel
theorem dL_house_905 : decode cL_house 905 = .ok (.invokevirtual 24, 3) := by decide +kernel
theorem dL_house_908 : decode cL_house 908 = .ok (.iconst 1, 1) := by decide +kernel
theorem dL_house_909 : decode cL_house 909 = .ok (.if_icmp .ne 78, 3) := by decide +kernel
theorem dL_house_912 : decode cL_house 912 = .ok (.aload_n 0, 1) := by decide +kernel
theorem dL_house_913 : decode cL_house 913 = .ok (.iconst 0, 1) := by decide +kernel
theorem dL_house_914 : decode cL_house 914 = .ok (.invokevirtual 27, 3) := by decide +kernel
theorem dL_house_917 : decode cL_house 917 = .ok (.ifCond .ne 70, 3) := by decide +kernel
theorem dL_house_920 : decode cL_house 920 = .ok (.aload_n 0, 1) := by decide +kernel
theorem dL_house_921 : decode cL_house 921 = .ok (.iconst 1, 1) := by decide +kernel
theorem dL_house_922 : decode cL_house 922 = .ok (.iconst 0, 1) := by decide +kernel
theorem dL_house_923 : decode cL_house 923 = .ok (.iconst 5, 1) := by decide +kernel
theorem dL_house_924 : decode cL_house 924 = .ok (.iconst 2, 1) := by decide +kernel
theorem dL_house_925 : decode cL_house 925 = .ok (.invokevirtual 41, 3) := by decide +kernel
theorem dL_house_928 : decode cL_house 928 = .ok (.bipush 17, 2) := by decide +kernel
theorem dL_house_930 : decode cL_house 930 = .ok (.if_icmp .ne 57, 3) := by decide +kernel
theorem dL_house_933 : decode cL_house 933 = .ok (.aload_n 0, 1) := by decide +kernel
theorem dL_house_934 : decode cL_house 934 = .ok (.iconst 0, 1) := by decide +kernel
theorem dL_house_935 : decode cL_house 935 = .ok (.iconst 2, 1) := by decide +kernel
theorem dL_house_936 : decode cL_house 936 = .ok (.iconst 5, 1) := by decide +kernel
theorem dL_house_937 : decode cL_house 937 = .ok (.iconst 2, 1) := by decide +kernel
theorem dL_house_938 : decode cL_house 938 = .ok (.invokevirtual 41, 3) := by decide +kernel
theorem dL_house_941 : decode cL_house 941 = .ok (.iconst 2, 1) := by decide +kernel
theorem dL_house_942 : decode cL_house 942 = .ok (.if_icmp .ne 45, 3) := by decide +kernel
theorem dL_house_945 : decode cL_house 945 = .ok (.aload_n 0, 1) := by decide +kernel
theorem dL_house_946 : decode cL_house 946 = .ok (.iconst 0, 1) := by decide +kernel
theorem dL_house_947 : decode cL_house 947 = .ok (.iconst 0, 1) := by decide +kernel
theorem dL_house_948 : decode cL_house 948 = .ok (.iconst 5, 1) := by decide +kernel
theorem dL_house_949 : decode cL_house 949 = .ok (.invokevirtual 51, 3) := by decide +kernel
theorem dL_house_952 : decode cL_house 952 = .ok (.ifCond .eq 35, 3) := by decide +kernel
theorem dL_house_955 : decode cL_house 955 = .ok (.aload_n 0, 1) := by decide +kernel
theorem dL_house_956 : decode cL_house 956 = .ok (.iconst 1, 1) := by decide +kernel
theorem dL_house_957 : decode cL_house 957 = .ok (.iconst 2, 1) := by decide +kernel
theorem dL_house_958 : decode cL_house 958 = .ok (.iconst 5, 1) := by decide +kernel
theorem dL_house_959 : decode cL_house 959 = .ok (.invokevirtual 48, 3) := by decide +kernel
theorem dL_house_962 : decode cL_house 962 = .ok (.iconst 3, 1) := by decide +kernel
theorem dL_house_963 : decode cL_house 963 = .ok (.if_icmp .ne 24, 3) := by decide +kernel
theorem dL_house_966 : decode cL_house 966 = .ok (.aload_n 0, 1) := by decide +kernel
theorem dL_house_967 : decode cL_house 967 = .ok (.iconst 1, 1) := by decide +kernel
theorem dL_house_968 : decode cL_house 968 = .ok (.iconst 2, 1) := by decide +kernel
theorem dL_house_969 : decode cL_house 969 = .ok (.iconst 5, 1) := by decide +kernel
theorem dL_house_970 : decode cL_house 970 = .ok (.invokevirtual 44, 3) := by decide +kernel
theorem dL_house_973 : decode cL_house 973 = .ok (.iconst 4, 1) := by decide +kernel
theorem dL_house_974 : decode cL_house 974 = .ok (.if_icmp .ne 13, 3) := by decide +kernel
theorem dL_house_977 : decode cL_house 977 = .ok (.aload_n 0, 1) := by decide +kernel
theorem dL_house_978 : decode cL_house 978 = .ok (.iconst 4, 1) := by decide +kernel
theorem dL_house_979 : decode cL_house 979 = .ok (.iconst 3, 1) := by decide +kernel
theorem dL_house_980 : decode cL_house 980 = .ok (.iconst 2, 1) := by decide +kernel
theorem dL_house_981 : decode cL_house 981 = .ok (.invokestatic 87, 3) := by decide +kernel
theorem dL_house_984 : decode cL_house 984 = .ok (.ifCond .ne 5, 3) := by decide +kernel
theorem dL_house_987 : decode cL_house 987 = .ok (.iconst 0, 1) := by decide +kernel
theorem dL_house_988 : decode cL_house 988 = .ok (.ireturn, 1) := by decide +kernel
theorem dL_house_989 : decode cL_house 989 = .ok (.aload_n 0, 1) := by decide +kernel
theorem dL_house_990 : decode cL_house 990 = .ok (.invokestatic 97, 3) := by decide +kernel
theorem dL_house_993 : decode cL_house 993 = .ok (.ifCond .eq 19, 3) := by decide +kernel
theorem dL_house_996 : decode cL_house 996 = .ok (.invokestatic 101, 3) := by decide +kernel
theorem dL_house_999 : decode cL_house 999 = .ok (.ifCond .eq 13, 3) := by decide +kernel
theorem dL_house_1002 : decode cL_house 1002 = .ok (.invokestatic 105, 3) := by decide +kernel
theorem dL_house_1005 : decode cL_house 1005 = .ok (.ifCond .eq 7, 3) := by decide +kernel
theorem dL_house_1008 : decode cL_house 1008 = .ok (.iconst 1, 1) := by decide +kernel
theorem dL_house_1009 : decode cL_house 1009 = .ok (.goto 4, 3) := by decide +kernel
theorem dL_house_1012 : decode cL_house 1012 = .ok (.iconst 0, 1) := by decide +kernel
theorem dL_house_1013 : decode cL_house 1013 = .ok (.ireturn, 1) := by decide +kernel
set_option maxRecDepth 20000 in
theorem ggL_secrets_X5_secret : GoodIn wsL_secrets wsX5_secret := goodIn_ca (goodIn_r _ [7, 8, 9, 10, 11, 12, 6, 13, 14, 15, 16, 17, 18, 19, 20, 21, 22, 23, 24, 25, 26, 27, 28, 29, 30, 31, 32, 33, 34, 35, 36, 37, 38, 39, 40, 41, 42, 43, 44, 45, 46, 47, 48, 49, 50, 51, 52, 53, 54, 55, 56, 57, 58, 59, 60, 61, 62, 63, 64, 65, 66, 67, 68, 69, 70, 71, 72, 73, 74, 75, 76, 77, 78, 79, 80, 81, 82, 83, 84, 85, 86, 87, 88, 89, 90, 91, 92, 93, 94, 95, 96, 97, 98, 99, 100, 101, 102, 300, 301, 302, 303, 304, 305, 306, 307, 308, 309, 310, 311, 312, 313, 314, 315, 316, 317, 318, 319, 320, 321, 322, 323] (by decide +kernel) (by decide +kernel)) (goodIn_sub (fun _ h => List.mem_cons_of_mem _ (List.mem_append_left _ (List.mem_append_left _ (List.mem_append_right _ h)))) (by decide +kernel))
set_option maxRecDepth 20000 in
theorem gL_secrets_X5_secret : GoodIn wsL_secrets (wsV RL 30 RX5 yX5_secret wsX5_secret) := goodIn_app (goodIn_of _ (by decide +kernel)) ggL_secrets_X5_secret
set_option maxRecDepth 20000 in
theorem ggL_secrets_X5_shown : GoodIn wsL_secrets wsX5_shown := goodIn_ca (goodIn_r _ [106, 9, 107, 10, 11, 12, 6, 13, 14, 15, 16, 17, 18, 19, 20, 21, 22, 23, 24, 25, 26, 27, 28, 29, 30, 31, 32, 33, 34, 35, 36, 37, 38, 8, 39, 40, 41, 42, 43, 44, 45, 46, 47, 48, 49, 50, 51, 52, 53, 54, 55, 56, 57, 58, 59, 60, 61, 62, 63, 64, 65, 66, 67, 68, 69, 70, 71, 72, 73, 74, 75, 76, 77, 78, 79, 80, 81, 82, 83, 84, 85, 86, 87, 88, 89, 90, 91, 92, 93, 94, 95, 96, 97, 98, 108, 109, 300, 301, 302, 303, 304, 305, 306, 307, 308, 309, 310, 311, 312, 313, 314, 315, 316, 317, 318, 319, 320, 321, 322, 323] (by decide +kernel) (by decide +kernel)) (goodIn_sub (fun _ h => List.mem_cons_of_mem _ (List.mem_append_left _ (List.mem_append_left _ (List.mem_append_right _ h)))) (by decide +kernel))
set_option maxRecDepth 20000 in
theorem gL_secrets_X5_shown : GoodIn wsL_secrets (wsV RL 55 RX5 yX5_shown wsX5_shown) := goodIn_app (goodIn_of _ (by decide +kernel)) ggL_secrets_X5_shown
set_option maxRecDepth 20000 in
theorem ggL_secrets_X5_hidden : GoodIn wsL_secrets wsX5_hidden := goodIn_ca (goodIn_r _ [113, 14, 15, 9, 24, 25, 6, 26, 33, 34, 35, 36, 37, 38, 16, 17, 8, 39, 40, 41, 42, 43, 44, 45, 46, 47, 48, 49, 50, 51, 52, 53, 31, 32, 54, 55, 56, 57, 58, 59, 60, 21, 61, 23, 62, 63, 64, 65, 66, 67, 68, 69, 70, 71, 72, 73, 74, 75, 76, 77, 78, 79, 80, 81, 82, 83, 84, 85, 86, 87, 88, 89, 90, 91, 92, 93, 94, 95, 96, 97, 98, 99, 100, 101, 102, 300, 301, 302, 303, 304, 305, 306, 307, 308, 309, 310, 311, 312, 313, 314, 315, 316, 317, 318, 319, 320, 321, 322, 323] (by decide +kernel) (by decide +kernel)) (goodIn_sub (fun _ h => List.mem_cons_of_mem _ (List.mem_append_left _ (List.mem_append_left _ (List.mem_append_right _ h)))) (by decide +kernel))
set_option maxRecDepth 20000 in
theorem gL_secrets_X5_hidden : GoodIn wsL_secrets (wsV RL 58 RX5 yX5_hidden wsX5_hidden) := goodIn_app (goodIn_of _ (by decide +kernel)) ggL_secrets_X5_hidden
set_option maxRecDepth 20000 in
theorem ggL_secrets_X5_value : GoodIn wsL_secrets wsX5_value := goodIn_ca (goodIn_ca (goodIn_r _ [117, 9, 37, 16, 17, 10, 11, 12, 6, 13, 14, 15, 18, 19, 20, 21, 22, 23, 24, 25, 26, 27, 28, 29, 30, 31, 32, 118, 119, 120, 121, 122, 123, 38, 39, 40, 41, 42, 43, 44, 45, 46, 47, 48, 49, 50, 51, 52, 53, 54, 55, 56, 57, 58, 59, 60, 61, 62, 63, 64, 65, 66, 67, 68, 69, 109, 300, 301, 302, 303, 304, 305, 306, 307, 308, 309, 310, 311, 312, 313, 314, 315, 316, 317, 318, 319, 320, 321, 322, 323] (by decide +kernel) (by decide +kernel)) (goodIn_sub (fun _ h => List.mem_cons_of_mem _ (List.mem_append_left _ (List.mem_append_left _ (List.mem_append_right _ h)))) (by decide +kernel))) (goodIn_sub (fun _ h => List.mem_cons_of_mem _ (List.mem_append_left _ (List.mem_append_right _ h))) (by decide +kernel))
set_option maxRecDepth 20000 in
theorem gL_secrets_X5_value : GoodIn wsL_secrets (wsV RL 41 RX5 yX5_value wsX5_value) := goodIn_app (goodIn_of _ (by decide +kernel)) ggL_secrets_X5_value
set_option maxRecDepth 20000 in
theorem ggL_secrets_L_find : GoodIn wsL_secrets wsL_find := goodIn_ca (goodIn_ca (goodIn_r _ [127, 128, 129, 130, 131, 132, 6, 133, 14, 15, 122, 123, 16, 17, 134, 135, 136, 18, 19, 20, 21, 22, 23, 24, 25, 26, 137, 138, 139, 140, 37, 27, 28, 29, 30, 31, 32, 141, 142, 143, 144, 145, 146, 147, 148, 149, 150, 151, 152, 62, 153, 300, 301, 302, 303, 304, 305, 306, 307, 308, 309, 310, 311, 312, 313, 316, 317, 318, 319, 320, 321, 322, 323] (by decide +kernel) (by decide +kernel)) (goodIn_sub (fun _ h => List.mem_cons_of_mem _ (List.mem_append_left _ (List.mem_append_left _ (List.mem_append_right _ h)))) (by decide +kernel))) (goodIn_sub (fun _ h => List.mem_cons_of_mem _ (List.mem_append_left _ (List.mem_append_right _ h))) (by decide +kernel))
set_option maxRecDepth 20000 in
theorem gL_secrets_L_find : GoodIn wsL_secrets (va_wsS RL 76 yL_find wsL_find) := goodIn_app (goodIn_of _ (by decide +kernel)) ggL_secrets_L_find
set_option maxRecDepth 20000 in
theorem ggL_secrets_X5_put : GoodIn wsL_secrets wsX5_put := goodIn_ca (goodIn_ca (goodIn_ca (goodIn_r _ [157, 122, 123, 158, 159, 160, 161, 162, 10, 11, 12, 6, 13, 14, 15, 16, 17, 18, 19, 20, 21, 22, 23, 24, 25, 26, 27, 28, 29, 30, 31, 32, 163, 164, 165, 166, 167, 168, 169, 170, 171, 172, 173, 174, 175, 176, 300, 301, 302, 303, 304, 305, 306, 307, 308, 309, 310, 311, 312, 313, 324, 325, 326, 327, 328] (by decide +kernel) (by decide +kernel)) (goodIn_sub (fun _ h => List.mem_cons_of_mem _ (List.mem_append_left _ (List.mem_append_right _ h))) (by decide +kernel))) (goodIn_sub (fun _ h => List.mem_cons_of_mem _ (List.mem_append_right _ h)) (by decide +kernel))) (goodIn_sub (fun _ h => List.mem_cons_of_mem _ (List.mem_append_left _ (List.mem_append_left _ (List.mem_append_right _ h)))) (by decide +kernel))
set_option maxRecDepth 20000 in
theorem gL_secrets_X5_put : GoodIn wsL_secrets (wsV RL 20 RX5 yX5_put wsX5_put) := goodIn_app (goodIn_of _ (by decide +kernel)) ggL_secrets_X5_put
set_option maxRecDepth 20000 in
theorem ggL_secrets_X5_send : GoodIn wsL_secrets wsX5_send := goodIn_ca (goodIn_ca (goodIn_r _ [180, 158, 159, 162, 181, 182, 183, 6, 184, 14, 15, 185, 186, 187, 188, 189, 37, 38, 190, 191, 192, 193, 194, 195, 16, 196, 197, 198, 199, 200, 201, 202, 203, 150, 151, 21, 152, 23, 62, 153, 19, 20, 22, 204, 205, 206, 166, 207, 173, 208, 176, 209, 210, 211, 144, 212, 213, 214, 215, 216, 217, 218, 146, 148, 219, 220, 221, 222, 168, 300, 301, 302, 303, 304, 305, 306, 307, 308, 309, 310, 324, 325, 326, 327, 328, 316, 317, 318, 319, 320, 321, 322, 323, 311, 312, 313, 329] (by decide +kernel) (by decide +kernel)) (goodIn_sub (fun _ h => List.mem_cons_of_mem _ (List.mem_append_right _ h)) (by decide +kernel))) (goodIn_sub (fun _ h => List.mem_cons_of_mem _ (List.mem_append_left _ (List.mem_append_left _ (List.mem_append_right _ h)))) (by decide +kernel))
set_option maxRecDepth 20000 in
theorem gL_secrets_X5_send : GoodIn wsL_secrets (wsV RL 24 RX5 yX5_send wsX5_send) := goodIn_app (goodIn_of _ (by decide +kernel)) ggL_secrets_X5_send
set_option maxRecDepth 20000 in
theorem ggL_secrets_X5_agree : GoodIn wsL_secrets wsX5_agree := goodIn_ca (goodIn_r _ [226, 195, 182, 183, 6, 184, 14, 15, 227, 228, 229, 230, 16, 18, 19, 20, 21, 22, 23, 231, 232, 233, 200, 234, 202, 300, 301, 302, 303, 304, 305, 306, 307, 308, 309, 310, 311, 312, 313, 329] (by decide +kernel) (by decide +kernel)) (goodIn_sub (fun _ h => List.mem_cons_of_mem _ (List.mem_append_left _ (List.mem_append_left _ (List.mem_append_right _ h)))) (by decide +kernel))
set_option maxRecDepth 20000 in
theorem gL_secrets_X5_agree : GoodIn wsL_secrets (wsV RL 16 RX5 yX5_agree wsX5_agree) := goodIn_app (goodIn_of _ (by decide +kernel)) ggL_secrets_X5_agree
set_option maxRecDepth 20000 in
theorem ggL_secrets_X5_mayTell : GoodIn wsL_secrets wsX5_mayTell := goodIn_ca (goodIn_r _ [238, 195, 16, 182, 183, 6, 184, 14, 15, 227, 228, 229, 230, 18, 19, 20, 21, 22, 23, 197, 198, 199, 200, 201, 202, 203, 150, 151, 152, 62, 153, 300, 301, 302, 303, 304, 305, 306, 307, 308, 309, 310, 311, 312, 313, 329] (by decide +kernel) (by decide +kernel)) (goodIn_sub (fun _ h => List.mem_cons_of_mem _ (List.mem_append_left _ (List.mem_append_left _ (List.mem_append_right _ h)))) (by decide +kernel))
set_option maxRecDepth 20000 in
theorem gL_secrets_X5_mayTell : GoodIn wsL_secrets (wsV RL 61 RX5 yX5_mayTell wsX5_mayTell) := goodIn_app (goodIn_of _ (by decide +kernel)) ggL_secrets_X5_mayTell
set_option maxRecDepth 20000 in
theorem ggL_secrets_X5_refusal : GoodIn wsL_secrets wsX5_refusal := goodIn_ca (goodIn_r _ [242, 14, 15, 190, 189, 300, 301, 302, 303, 304, 305, 306, 307, 308, 309, 310] (by decide +kernel) (by decide +kernel)) (goodIn_sub (fun _ h => List.mem_cons_of_mem _ (List.mem_append_left _ (List.mem_append_left _ (List.mem_append_right _ h)))) (by decide +kernel))
set_option maxRecDepth 20000 in
theorem gL_secrets_X5_refusal : GoodIn wsL_secrets (wsV RL 27 RX5 yX5_refusal wsX5_refusal) := goodIn_app (goodIn_of _ (by decide +kernel)) ggL_secrets_X5_refusal
set_option maxRecDepth 20000 in
theorem ggL_secrets_L_refuses : GoodIn wsL_secrets wsL_refuses := goodIn_ca (goodIn_ca (goodIn_ca (goodIn_r _ [245, 246, 247, 248, 110, 111, 112, 6, 113, 14, 15, 9, 24, 25, 26, 33, 34, 35, 36, 37, 38, 16, 17, 8, 39, 40, 41, 42, 43, 44, 45, 46, 47, 48, 49, 50, 51, 52, 53, 31, 32, 54, 55, 56, 57, 58, 59, 60, 21, 61, 23, 62, 63, 64, 65, 66, 67, 68, 69, 70, 71, 72, 73, 74, 75, 76, 77, 78, 79, 80, 81, 82, 83, 84, 85, 86, 87, 88, 89, 90, 91, 92, 93, 94, 95, 96, 97, 98, 99, 100, 101, 102, 124, 125, 126, 127, 128, 129, 130, 131, 132, 133, 122, 123, 134, 135, 136, 18, 19, 20, 22, 137, 138, 139, 140, 27, 28, 29, 30, 141, 142, 143, 144, 145, 146, 147, 148, 149, 150, 151, 152, 153, 249, 250, 251, 252, 253, 254, 255, 256, 257, 258, 259, 158, 159, 260, 261, 262, 263, 264, 265, 266, 267, 268, 269, 270, 271, 223, 224, 225, 226, 195, 182, 183, 184, 227, 228, 229, 230, 231, 232, 233, 200, 234, 202, 154, 155, 156, 157, 160, 161, 162, 10, 11, 12, 13, 163, 164, 165, 166, 167, 168, 169, 170, 171, 172, 173, 174, 175, 176, 177, 178, 179, 180, 181, 185, 186, 187, 188, 189, 190, 191, 192, 193, 194, 196, 197, 198, 199, 201, 203, 204, 205, 206, 207, 208, 209, 210, 211, 212, 213, 214, 215, 216, 217, 218, 219, 220, 221, 222, 239, 240, 241, 242, 3, 4, 5, 7, 272, 273, 274, 275, 276, 277, 278, 279, 118, 119, 120, 121, 280, 281, 282, 283, 114, 115, 116, 117, 109, 284, 285, 286, 287, 288, 289, 290, 291, 292, 293, 294, 295, 296, 297, 298, 299, 103, 104, 105, 106, 107, 108, 235, 236, 237, 238, 300, 301, 302, 303, 304, 305, 306, 307, 308, 309, 310, 311, 312, 313, 314, 315, 316, 317, 318, 319, 320, 321, 322, 323, 329, 324, 325, 326, 327, 328] rfl (by decide +kernel)) (goodIn_sub (fun _ h => List.mem_cons_of_mem _ (List.mem_append_left _ (List.mem_append_left _ (List.mem_append_right _ h)))) (by decide +kernel))) (goodIn_sub (fun _ h => List.mem_cons_of_mem _ (List.mem_append_left _ (List.mem_append_right _ h))) (by decide +kernel))) (goodIn_sub (fun _ h => List.mem_cons_of_mem _ (List.mem_append_right _ h)) (by decide +kernel))
set_option maxRecDepth 20000 in
theorem gL_secrets_L_refuses : GoodIn wsL_secrets (va_wsS RL 87 yL_refuses wsL_refuses) := goodIn_app (goodIn_of _ (by decide +kernel)) ggL_secrets_L_refuses
theorem dL_secrets_0 : decode cL_secrets 0 = .ok (.aload_n 0, 1) := by decide +kernel
theorem dL_secrets_1 : decode cL_secrets 1 = .ok (.iconst 1, 1) := by decide +kernel
theorem dL_secrets_2 : decode cL_secrets 2 = .ok (.iconst 1, 1) := by decide +kernel
theorem dL_secrets_3 : decode cL_secrets 3 = .ok (.iconst 5, 1) := by decide +kernel
theorem dL_secrets_4 : decode cL_secrets 4 = .ok (.iconst 1, 1) := by decide +kernel
theorem dL_secrets_5 : decode cL_secrets 5 = .ok (.invokevirtual 30, 3) := by decide +kernel
theorem dL_secrets_8 : decode cL_secrets 8 = .ok (.iconst 5, 1) := by decide +kernel
theorem dL_secrets_9 : decode cL_secrets 9 = .ok (.if_icmp .ne 304, 3) := by decide +kernel
theorem dL_secrets_12 : decode cL_secrets 12 = .ok (.aload_n 0, 1) := by decide +kernel
theorem dL_secrets_13 : decode cL_secrets 13 = .ok (.iconst 1, 1) := by decide +kernel
theorem dL_secrets_14 : decode cL_secrets 14 = .ok (.iconst 1, 1) := by decide +kernel
theorem dL_secrets_15 : decode cL_secrets 15 = .ok (.iconst 5, 1) := by decide +kernel
theorem dL_secrets_16 : decode cL_secrets 16 = .ok (.invokevirtual 55, 3) := by decide +kernel
theorem dL_secrets_19 : decode cL_secrets 19 = .ok (.ldc 108, 2) := by decide +kernel
theorem dL_secrets_21 : decode cL_secrets 21 = .ok (.if_icmp .ne 292, 3) := by decide +kernel
theorem dL_secrets_24 : decode cL_secrets 24 = .ok (.aload_n 0, 1) := by decide +kernel
theorem dL_secrets_25 : decode cL_secrets 25 = .ok (.iconst 2, 1) := by decide +kernel
theorem dL_secrets_26 : decode cL_secrets 26 = .ok (.iconst 1, 1) := by decide +kernel
theorem dL_secrets_27 : decode cL_secrets 27 = .ok (.iconst 5, 1) := by decide +kernel
theorem dL_secrets_28 : decode cL_secrets 28 = .ok (.invokevirtual 55, 3) := by decide +kernel
theorem dL_secrets_31 : decode cL_secrets 31 = .ok (.ldc 108, 2) := by decide +kernel
theorem dL_secrets_33 : decode cL_secrets 33 = .ok (.if_icmp .ne 280, 3) := by decide +kernel
theorem dL_secrets_36 : decode cL_secrets 36 = .ok (.aload_n 0, 1) := by decide +kernel
theorem dL_secrets_37 : decode cL_secrets 37 = .ok (.iconst 1, 1) := by decide +kernel
theorem dL_secrets_38 : decode cL_secrets 38 = .ok (.iconst 2, 1) := by decide +kernel
theorem dL_secrets_39 : decode cL_secrets 39 = .ok (.iconst 5, 1) := by decide +kernel
theorem dL_secrets_40 : decode cL_secrets 40 = .ok (.invokevirtual 55, 3) := by decide +kernel
theorem dL_secrets_43 : decode cL_secrets 43 = .ok (.ldc 108, 2) := by decide +kernel
theorem dL_secrets_45 : decode cL_secrets 45 = .ok (.if_icmp .ne 268, 3) := by decide +kernel
theorem dL_secrets_48 : decode cL_secrets 48 = .ok (.aload_n 0, 1) := by decide +kernel
theorem dL_secrets_49 : decode cL_secrets 49 = .ok (.iconst 2, 1) := by decide +kernel
theorem dL_secrets_50 : decode cL_secrets 50 = .ok (.iconst 2, 1) := by decide +kernel
theorem dL_secrets_51 : decode cL_secrets 51 = .ok (.iconst 5, 1) := by decide +kernel
theorem dL_secrets_52 : decode cL_secrets 52 = .ok (.invokevirtual 55, 3) := by decide +kernel
theorem dL_secrets_55 : decode cL_secrets 55 = .ok (.ldc 108, 2) := by decide +kernel
theorem dL_secrets_57 : decode cL_secrets 57 = .ok (.if_icmp .ne 256, 3) := by decide +kernel
theorem dL_secrets_60 : decode cL_secrets 60 = .ok (.aload_n 0, 1) := by decide +kernel
theorem dL_secrets_61 : decode cL_secrets 61 = .ok (.iconst 3, 1) := by decide +kernel
theorem dL_secrets_62 : decode cL_secrets 62 = .ok (.iconst 2, 1) := by decide +kernel
theorem dL_secrets_63 : decode cL_secrets 63 = .ok (.iconst 5, 1) := by decide +kernel
theorem dL_secrets_64 : decode cL_secrets 64 = .ok (.invokevirtual 55, 3) := by decide +kernel
theorem dL_secrets_67 : decode cL_secrets 67 = .ok (.ldc 108, 2) := by decide +kernel
theorem dL_secrets_69 : decode cL_secrets 69 = .ok (.if_icmp .ne 244, 3) := by decide +kernel
theorem dL_secrets_72 : decode cL_secrets 72 = .ok (.aload_n 0, 1) := by decide +kernel
theorem dL_secrets_73 : decode cL_secrets 73 = .ok (.iconst 0, 1) := by decide +kernel
theorem dL_secrets_74 : decode cL_secrets 74 = .ok (.iconst 1, 1) := by decide +kernel
theorem dL_secrets_75 : decode cL_secrets 75 = .ok (.iconst 5, 1) := by decide +kernel
theorem dL_secrets_76 : decode cL_secrets 76 = .ok (.invokevirtual 55, 3) := by decide +kernel
theorem dL_secrets_79 : decode cL_secrets 79 = .ok (.bipush 19, 2) := by decide +kernel
theorem dL_secrets_81 : decode cL_secrets 81 = .ok (.if_icmp .ne 232, 3) := by decide +kernel
theorem dL_secrets_84 : decode cL_secrets 84 = .ok (.aload_n 0, 1) := by decide +kernel
theorem dL_secrets_85 : decode cL_secrets 85 = .ok (.iconst 0, 1) := by decide +kernel
theorem dL_secrets_86 : decode cL_secrets 86 = .ok (.iconst 0, 1) := by decide +kernel
theorem dL_secrets_87 : decode cL_secrets 87 = .ok (.iconst 5, 1) := by decide +kernel
theorem dL_secrets_88 : decode cL_secrets 88 = .ok (.invokevirtual 55, 3) := by decide +kernel
theorem dL_secrets_91 : decode cL_secrets 91 = .ok (.bipush 20, 2) := by decide +kernel
theorem dL_secrets_93 : decode cL_secrets 93 = .ok (.if_icmp .ne 220, 3) := by decide +kernel
theorem dL_secrets_96 : decode cL_secrets 96 = .ok (.aload_n 0, 1) := by decide +kernel
theorem dL_secrets_97 : decode cL_secrets 97 = .ok (.iconst 0, 1) := by decide +kernel
theorem dL_secrets_98 : decode cL_secrets 98 = .ok (.iconst 2, 1) := by decide +kernel
theorem dL_secrets_99 : decode cL_secrets 99 = .ok (.iconst 5, 1) := by decide +kernel
theorem dL_secrets_100 : decode cL_secrets 100 = .ok (.invokevirtual 55, 3) := by decide +kernel
theorem dL_secrets_103 : decode cL_secrets 103 = .ok (.iconst 2, 1) := by decide +kernel
theorem dL_secrets_104 : decode cL_secrets 104 = .ok (.if_icmp .ne 209, 3) := by decide +kernel
theorem dL_secrets_107 : decode cL_secrets 107 = .ok (.aload_n 0, 1) := by decide +kernel
theorem dL_secrets_108 : decode cL_secrets 108 = .ok (.iconst 1, 1) := by decide +kernel
theorem dL_secrets_109 : decode cL_secrets 109 = .ok (.iconst 0, 1) := by decide +kernel
theorem dL_secrets_110 : decode cL_secrets 110 = .ok (.iconst 5, 1) := by decide +kernel
theorem dL_secrets_111 : decode cL_secrets 111 = .ok (.invokevirtual 55, 3) := by decide +kernel
theorem dL_secrets_114 : decode cL_secrets 114 = .ok (.bipush 17, 2) := by decide +kernel
theorem dL_secrets_116 : decode cL_secrets 116 = .ok (.if_icmp .ne 197, 3) := by decide +kernel
theorem dL_secrets_119 : decode cL_secrets 119 = .ok (.aload_n 0, 1) := by decide +kernel
theorem dL_secrets_120 : decode cL_secrets 120 = .ok (.iconst 2, 1) := by decide +kernel
theorem dL_secrets_121 : decode cL_secrets 121 = .ok (.iconst 0, 1) := by decide +kernel
theorem dL_secrets_122 : decode cL_secrets 122 = .ok (.iconst 5, 1) := by decide +kernel
theorem dL_secrets_123 : decode cL_secrets 123 = .ok (.invokevirtual 55, 3) := by decide +kernel
theorem dL_secrets_126 : decode cL_secrets 126 = .ok (.iconst 4, 1) := by decide +kernel
theorem dL_secrets_127 : decode cL_secrets 127 = .ok (.if_icmp .ne 186, 3) := by decide +kernel
theorem dL_secrets_130 : decode cL_secrets 130 = .ok (.aload_n 0, 1) := by decide +kernel
theorem dL_secrets_131 : decode cL_secrets 131 = .ok (.iconst 3, 1) := by decide +kernel
theorem dL_secrets_132 : decode cL_secrets 132 = .ok (.iconst 1, 1) := by decide +kernel
theorem dL_secrets_133 : decode cL_secrets 133 = .ok (.iconst 5, 1) := by decide +kernel
theorem dL_secrets_134 : decode cL_secrets 134 = .ok (.invokevirtual 55, 3) := by decide +kernel
theorem dL_secrets_137 : decode cL_secrets 137 = .ok (.ldc 95, 2) := by decide +kernel
theorem dL_secrets_139 : decode cL_secrets 139 = .ok (.if_icmp .ne 174, 3) := by decide +kernel
theorem dL_secrets_142 : decode cL_secrets 142 = .ok (.aload_n 0, 1) := by decide +kernel
theorem dL_secrets_143 : decode cL_secrets 143 = .ok (.iconst 5, 1) := by decide +kernel
theorem dL_secrets_144 : decode cL_secrets 144 = .ok (.invokevirtual 58, 3) := by decide +kernel
theorem dL_secrets_147 : decode cL_secrets 147 = .ok (.iconst 5, 1) := by decide +kernel
theorem dL_secrets_148 : decode cL_secrets 148 = .ok (.if_icmp .ne 165, 3) := by decide +kernel
theorem dL_secrets_151 : decode cL_secrets 151 = .ok (.aload_n 0, 1) := by decide +kernel
theorem dL_secrets_152 : decode cL_secrets 152 = .ok (.iconst 4, 1) := by decide +kernel
theorem dL_secrets_153 : decode cL_secrets 153 = .ok (.invokevirtual 58, 3) := by decide +kernel
theorem dL_secrets_156 : decode cL_secrets 156 = .ok (.ifCond .ne 157, 3) := by decide +kernel
theorem dL_secrets_159 : decode cL_secrets 159 = .ok (.aload_n 0, 1) := by decide +kernel
theorem dL_secrets_160 : decode cL_secrets 160 = .ok (.iconst 1, 1) := by decide +kernel
theorem dL_secrets_161 : decode cL_secrets 161 = .ok (.iconst 1, 1) := by decide +kernel
theorem dL_secrets_162 : decode cL_secrets 162 = .ok (.iconst 5, 1) := by decide +kernel
theorem dL_secrets_163 : decode cL_secrets 163 = .ok (.iconst 2, 1) := by decide +kernel
theorem dL_secrets_164 : decode cL_secrets 164 = .ok (.invokevirtual 41, 3) := by decide +kernel
theorem dL_secrets_167 : decode cL_secrets 167 = .ok (.bipush 12, 2) := by decide +kernel
theorem dL_secrets_169 : decode cL_secrets 169 = .ok (.if_icmp .ne 144, 3) := by decide +kernel
theorem dL_secrets_172 : decode cL_secrets 172 = .ok (.aload_n 0, 1) := by decide +kernel
theorem dL_secrets_173 : decode cL_secrets 173 = .ok (.iconst 1, 1) := by decide +kernel
theorem dL_secrets_174 : decode cL_secrets 174 = .ok (.iconst 1, 1) := by decide +kernel
theorem dL_secrets_175 : decode cL_secrets 175 = .ok (.iconst 5, 1) := by decide +kernel
theorem dL_secrets_176 : decode cL_secrets 176 = .ok (.iconst 1, 1) := by decide +kernel
theorem dL_secrets_177 : decode cL_secrets 177 = .ok (.invokevirtual 30, 3) := by decide +kernel
theorem dL_secrets_180 : decode cL_secrets 180 = .ok (.iconst 5, 1) := by decide +kernel
theorem dL_secrets_181 : decode cL_secrets 181 = .ok (.if_icmp .ne 132, 3) := by decide +kernel
theorem dL_secrets_184 : decode cL_secrets 184 = .ok (.aload_n 0, 1) := by decide +kernel
theorem dL_secrets_185 : decode cL_secrets 185 = .ok (.iconst 1, 1) := by decide +kernel
theorem dL_secrets_186 : decode cL_secrets 186 = .ok (.iconst 1, 1) := by decide +kernel
theorem dL_secrets_187 : decode cL_secrets 187 = .ok (.iconst 5, 1) := by decide +kernel
theorem dL_secrets_188 : decode cL_secrets 188 = .ok (.iconst 0, 1) := by decide +kernel
theorem dL_secrets_189 : decode cL_secrets 189 = .ok (.invokevirtual 30, 3) := by decide +kernel
theorem dL_secrets_192 : decode cL_secrets 192 = .ok (.ifCond .ne 121, 3) := by decide +kernel
theorem dL_secrets_195 : decode cL_secrets 195 = .ok (.aload_n 0, 1) := by decide +kernel
theorem dL_secrets_196 : decode cL_secrets 196 = .ok (.iconst 0, 1) := by decide +kernel
theorem dL_secrets_197 : decode cL_secrets 197 = .ok (.iconst 1, 1) := by decide +kernel
theorem dL_secrets_198 : decode cL_secrets 198 = .ok (.iconst 5, 1) := by decide +kernel
theorem dL_secrets_199 : decode cL_secrets 199 = .ok (.iconst 1, 1) := by decide +kernel
theorem dL_secrets_200 : decode cL_secrets 200 = .ok (.invokevirtual 30, 3) := by decide +kernel
theorem dL_secrets_203 : decode cL_secrets 203 = .ok (.iconst 5, 1) := by decide +kernel
theorem dL_secrets_204 : decode cL_secrets 204 = .ok (.if_icmp .ne 109, 3) := by decide +kernel
theorem dL_secrets_207 : decode cL_secrets 207 = .ok (.aload_n 0, 1) := by decide +kernel
theorem dL_secrets_208 : decode cL_secrets 208 = .ok (.iconst 0, 1) := by decide +kernel
theorem dL_secrets_209 : decode cL_secrets 209 = .ok (.iconst 1, 1) := by decide +kernel
theorem dL_secrets_210 : decode cL_secrets 210 = .ok (.iconst 5, 1) := by decide +kernel
theorem dL_secrets_211 : decode cL_secrets 211 = .ok (.invokevirtual 55, 3) := by decide +kernel
theorem dL_secrets_214 : decode cL_secrets 214 = .ok (.ldc 108, 2) := by decide +kernel
theorem dL_secrets_216 : decode cL_secrets 216 = .ok (.if_icmp .ne 97, 3) := by decide +kernel
theorem dL_secrets_219 : decode cL_secrets 219 = .ok (.aload_n 0, 1) := by decide +kernel
theorem dL_secrets_220 : decode cL_secrets 220 = .ok (.iconst 2, 1) := by decide +kernel
theorem dL_secrets_221 : decode cL_secrets 221 = .ok (.iconst 1, 1) := by decide +kernel
theorem dL_secrets_222 : decode cL_secrets 222 = .ok (.iconst 5, 1) := by decide +kernel
theorem dL_secrets_223 : decode cL_secrets 223 = .ok (.invokevirtual 55, 3) := by decide +kernel
theorem dL_secrets_226 : decode cL_secrets 226 = .ok (.ldc 108, 2) := by decide +kernel
theorem dL_secrets_228 : decode cL_secrets 228 = .ok (.if_icmp .ne 85, 3) := by decide +kernel
theorem dL_secrets_231 : decode cL_secrets 231 = .ok (.aload_n 0, 1) := by decide +kernel
theorem dL_secrets_232 : decode cL_secrets 232 = .ok (.iconst 0, 1) := by decide +kernel
theorem dL_secrets_233 : decode cL_secrets 233 = .ok (.iconst 2, 1) := by decide +kernel
theorem dL_secrets_234 : decode cL_secrets 234 = .ok (.iconst 5, 1) := by decide +kernel
theorem dL_secrets_235 : decode cL_secrets 235 = .ok (.invokevirtual 55, 3) := by decide +kernel
theorem dL_secrets_238 : decode cL_secrets 238 = .ok (.ldc 108, 2) := by decide +kernel
theorem dL_secrets_240 : decode cL_secrets 240 = .ok (.if_icmp .ne 73, 3) := by decide +kernel
theorem dL_secrets_243 : decode cL_secrets 243 = .ok (.aload_n 0, 1) := by decide +kernel
theorem dL_secrets_244 : decode cL_secrets 244 = .ok (.iconst 2, 1) := by decide +kernel
theorem dL_secrets_245 : decode cL_secrets 245 = .ok (.iconst 2, 1) := by decide +kernel
theorem dL_secrets_246 : decode cL_secrets 246 = .ok (.iconst 5, 1) := by decide +kernel
theorem dL_secrets_247 : decode cL_secrets 247 = .ok (.invokevirtual 55, 3) := by decide +kernel
theorem dL_secrets_250 : decode cL_secrets 250 = .ok (.ldc 108, 2) := by decide +kernel
theorem dL_secrets_252 : decode cL_secrets 252 = .ok (.if_icmp .ne 61, 3) := by decide +kernel
theorem dL_secrets_255 : decode cL_secrets 255 = .ok (.aload_n 0, 1) := by decide +kernel
theorem dL_secrets_256 : decode cL_secrets 256 = .ok (.iconst 3, 1) := by decide +kernel
theorem dL_secrets_257 : decode cL_secrets 257 = .ok (.iconst 2, 1) := by decide +kernel
theorem dL_secrets_258 : decode cL_secrets 258 = .ok (.iconst 5, 1) := by decide +kernel
theorem dL_secrets_259 : decode cL_secrets 259 = .ok (.invokevirtual 55, 3) := by decide +kernel
theorem dL_secrets_262 : decode cL_secrets 262 = .ok (.ldc 108, 2) := by decide +kernel
theorem dL_secrets_264 : decode cL_secrets 264 = .ok (.if_icmp .ne 49, 3) := by decide +kernel
theorem dL_secrets_267 : decode cL_secrets 267 = .ok (.aload_n 0, 1) := by decide +kernel
theorem dL_secrets_268 : decode cL_secrets 268 = .ok (.iconst 1, 1) := by decide +kernel
theorem dL_secrets_269 : decode cL_secrets 269 = .ok (.iconst 1, 1) := by decide +kernel
theorem dL_secrets_270 : decode cL_secrets 270 = .ok (.iconst 5, 1) := by decide +kernel
theorem dL_secrets_271 : decode cL_secrets 271 = .ok (.invokevirtual 55, 3) := by decide +kernel
theorem dL_secrets_274 : decode cL_secrets 274 = .ok (.bipush 12, 2) := by decide +kernel
theorem dL_secrets_276 : decode cL_secrets 276 = .ok (.if_icmp .ne 37, 3) := by decide +kernel
theorem dL_secrets_279 : decode cL_secrets 279 = .ok (.aload_n 0, 1) := by decide +kernel
theorem dL_secrets_280 : decode cL_secrets 280 = .ok (.iconst 0, 1) := by decide +kernel
theorem dL_secrets_281 : decode cL_secrets 281 = .ok (.iconst 1, 1) := by decide +kernel
theorem dL_secrets_282 : decode cL_secrets 282 = .ok (.iconst 5, 1) := by decide +kernel
theorem dL_secrets_283 : decode cL_secrets 283 = .ok (.iconst 0, 1) := by decide +kernel
theorem dL_secrets_284 : decode cL_secrets 284 = .ok (.invokevirtual 30, 3) := by decide +kernel
theorem dL_secrets_287 : decode cL_secrets 287 = .ok (.ifCond .ne 26, 3) := by decide +kernel
theorem dL_secrets_290 : decode cL_secrets 290 = .ok (.aload_n 0, 1) := by decide +kernel
theorem dL_secrets_291 : decode cL_secrets 291 = .ok (.iconst 3, 1) := by decide +kernel
theorem dL_secrets_292 : decode cL_secrets 292 = .ok (.iconst 1, 1) := by decide +kernel
theorem dL_secrets_293 : decode cL_secrets 293 = .ok (.iconst 5, 1) := by decide +kernel
theorem dL_secrets_294 : decode cL_secrets 294 = .ok (.iconst 1, 1) := by decide +kernel
theorem dL_secrets_295 : decode cL_secrets 295 = .ok (.invokevirtual 30, 3) := by decide +kernel
theorem dL_secrets_298 : decode cL_secrets 298 = .ok (.ifCond .ne 15, 3) := by decide +kernel
theorem dL_secrets_301 : decode cL_secrets 301 = .ok (.aload_n 0, 1) := by decide +kernel
theorem dL_secrets_302 : decode cL_secrets 302 = .ok (.iconst 3, 1) := by decide +kernel
theorem dL_secrets_303 : decode cL_secrets 303 = .ok (.iconst 0, 1) := by decide +kernel
theorem dL_secrets_304 : decode cL_secrets 304 = .ok (.bipush 7, 2) := by decide +kernel
theorem dL_secrets_306 : decode cL_secrets 306 = .ok (.iconst 1, 1) := by decide +kernel
theorem dL_secrets_307 : decode cL_secrets 307 = .ok (.invokevirtual 30, 3) := by decide +kernel
theorem dL_secrets_310 : decode cL_secrets 310 = .ok (.ifCond .eq 5, 3) := by decide +kernel
theorem dL_secrets_313 : decode cL_secrets 313 = .ok (.iconst 0, 1) := by decide +kernel
theorem dL_secrets_314 : decode cL_secrets 314 = .ok (.ireturn, 1) := by decide +kernel
theorem dL_secrets_315 : decode cL_secrets 315 = .ok (.aload_n 0, 1) := by decide +kernel
theorem dL_secrets_316 : decode cL_secrets 316 = .ok (.iconst (-1), 1) := by decide +kernel
theorem dL_secrets_317 : decode cL_secrets 317 = .ok (.iconst (-1), 1) := by decide +kernel
theorem dL_secrets_318 : decode cL_secrets 318 = .ok (.iconst 0, 1) := by decide +kernel
theorem dL_secrets_319 : decode cL_secrets 319 = .ok (.bipush 11, 2) := by decide +kernel
theorem dL_secrets_321 : decode cL_secrets 321 = .ok (.iconst 0, 1) := by decide +kernel
theorem dL_secrets_322 : decode cL_secrets 322 = .ok (.iconst 0, 1) := by decide +kernel
theorem dL_secrets_323 : decode cL_secrets 323 = .ok (.invokestatic 76, 3) := by decide +kernel
theorem dL_secrets_326 : decode cL_secrets 326 = .ok (.sipush 5000, 3) := by decide +kernel
theorem dL_secrets_329 : decode cL_secrets 329 = .ok (.if_icmp .ne 276, 3) := by decide +kernel
theorem dL_secrets_332 : decode cL_secrets 332 = .ok (.aload_n 0, 1) := by decide +kernel
theorem dL_secrets_333 : decode cL_secrets 333 = .ok (.iconst (-1), 1) := by decide +kernel
theorem dL_secrets_334 : decode cL_secrets 334 = .ok (.iconst (-1), 1) := by decide +kernel
theorem dL_secrets_335 : decode cL_secrets 335 = .ok (.iconst 0, 1) := by decide +kernel
theorem dL_secrets_336 : decode cL_secrets 336 = .ok (.bipush 11, 2) := by decide +kernel
theorem dL_secrets_338 : decode cL_secrets 338 = .ok (.iconst 0, 1) := by decide +kernel
theorem dL_secrets_339 : decode cL_secrets 339 = .ok (.iconst 1, 1) := by decide +kernel
theorem dL_secrets_340 : decode cL_secrets 340 = .ok (.invokestatic 76, 3) := by decide +kernel
theorem dL_secrets_343 : decode cL_secrets 343 = .ok (.sipush 5001, 3) := by decide +kernel
theorem dL_secrets_346 : decode cL_secrets 346 = .ok (.if_icmp .ne 259, 3) := by decide +kernel
theorem dL_secrets_349 : decode cL_secrets 349 = .ok (.aload_n 0, 1) := by decide +kernel
theorem dL_secrets_350 : decode cL_secrets 350 = .ok (.iconst (-1), 1) := by decide +kernel
theorem dL_secrets_351 : decode cL_secrets 351 = .ok (.iconst (-1), 1) := by decide +kernel
theorem dL_secrets_352 : decode cL_secrets 352 = .ok (.iconst 0, 1) := by decide +kernel
theorem dL_secrets_353 : decode cL_secrets 353 = .ok (.bipush 11, 2) := by decide +kernel
theorem dL_secrets_355 : decode cL_secrets 355 = .ok (.iconst 0, 1) := by decide +kernel
theorem dL_secrets_356 : decode cL_secrets 356 = .ok (.iconst 2, 1) := by decide +kernel
theorem dL_secrets_357 : decode cL_secrets 357 = .ok (.invokestatic 76, 3) := by decide +kernel
theorem dL_secrets_360 : decode cL_secrets 360 = .ok (.sipush 5021, 3) := by decide +kernel
theorem dL_secrets_363 : decode cL_secrets 363 = .ok (.if_icmp .ne 242, 3) := by decide +kernel
theorem dL_secrets_366 : decode cL_secrets 366 = .ok (.aload_n 0, 1) := by decide +kernel
theorem dL_secrets_367 : decode cL_secrets 367 = .ok (.iconst (-1), 1) := by decide +kernel
theorem dL_secrets_368 : decode cL_secrets 368 = .ok (.iconst (-1), 1) := by decide +kernel
theorem dL_secrets_369 : decode cL_secrets 369 = .ok (.iconst 0, 1) := by decide +kernel
theorem dL_secrets_370 : decode cL_secrets 370 = .ok (.bipush 11, 2) := by decide +kernel
theorem dL_secrets_372 : decode cL_secrets 372 = .ok (.iconst 0, 1) := by decide +kernel
theorem dL_secrets_373 : decode cL_secrets 373 = .ok (.iconst 3, 1) := by decide +kernel
theorem dL_secrets_374 : decode cL_secrets 374 = .ok (.invokestatic 76, 3) := by decide +kernel
theorem dL_secrets_377 : decode cL_secrets 377 = .ok (.sipush 5022, 3) := by decide +kernel
theorem dL_secrets_380 : decode cL_secrets 380 = .ok (.if_icmp .ne 225, 3) := by decide +kernel
theorem dL_secrets_383 : decode cL_secrets 383 = .ok (.aload_n 0, 1) := by decide +kernel
theorem dL_secrets_384 : decode cL_secrets 384 = .ok (.iconst (-1), 1) := by decide +kernel
theorem dL_secrets_385 : decode cL_secrets 385 = .ok (.iconst (-1), 1) := by decide +kernel
theorem dL_secrets_386 : decode cL_secrets 386 = .ok (.iconst 5, 1) := by decide +kernel
theorem dL_secrets_387 : decode cL_secrets 387 = .ok (.iconst 5, 1) := by decide +kernel
theorem dL_secrets_388 : decode cL_secrets 388 = .ok (.iconst 0, 1) := by decide +kernel
theorem dL_secrets_389 : decode cL_secrets 389 = .ok (.iconst 4, 1) := by decide +kernel
theorem dL_secrets_390 : decode cL_secrets 390 = .ok (.invokestatic 76, 3) := by decide +kernel
theorem dL_secrets_393 : decode cL_secrets 393 = .ok (.sipush 5041, 3) := by decide +kernel
theorem dL_secrets_396 : decode cL_secrets 396 = .ok (.if_icmp .ne 209, 3) := by decide +kernel
theorem dL_secrets_399 : decode cL_secrets 399 = .ok (.aload_n 0, 1) := by decide +kernel
theorem dL_secrets_400 : decode cL_secrets 400 = .ok (.iconst (-1), 1) := by decide +kernel
theorem dL_secrets_401 : decode cL_secrets 401 = .ok (.iconst (-1), 1) := by decide +kernel
theorem dL_secrets_402 : decode cL_secrets 402 = .ok (.iconst 0, 1) := by decide +kernel
theorem dL_secrets_403 : decode cL_secrets 403 = .ok (.bipush 11, 2) := by decide +kernel
theorem dL_secrets_405 : decode cL_secrets 405 = .ok (.iconst 0, 1) := by decide +kernel
theorem dL_secrets_406 : decode cL_secrets 406 = .ok (.iconst 5, 1) := by decide +kernel
theorem dL_secrets_407 : decode cL_secrets 407 = .ok (.invokestatic 76, 3) := by decide +kernel
theorem dL_secrets_410 : decode cL_secrets 410 = .ok (.sipush 5062, 3) := by decide +kernel
theorem dL_secrets_413 : decode cL_secrets 413 = .ok (.if_icmp .ne 192, 3) := by decide +kernel
theorem dL_secrets_416 : decode cL_secrets 416 = .ok (.aload_n 0, 1) := by decide +kernel
theorem dL_secrets_417 : decode cL_secrets 417 = .ok (.iconst (-1), 1) := by decide +kernel
theorem dL_secrets_418 : decode cL_secrets 418 = .ok (.iconst (-1), 1) := by decide +kernel
theorem dL_secrets_419 : decode cL_secrets 419 = .ok (.iconst 0, 1) := by decide +kernel
theorem dL_secrets_420 : decode cL_secrets 420 = .ok (.bipush 11, 2) := by decide +kernel
theorem dL_secrets_422 : decode cL_secrets 422 = .ok (.iconst 0, 1) := by decide +kernel
theorem dL_secrets_423 : decode cL_secrets 423 = .ok (.bipush 6, 2) := by decide +kernel
theorem dL_secrets_425 : decode cL_secrets 425 = .ok (.invokestatic 76, 3) := by decide +kernel
theorem dL_secrets_428 : decode cL_secrets 428 = .ok (.iconst (-1), 1) := by decide +kernel
theorem dL_secrets_429 : decode cL_secrets 429 = .ok (.if_icmp .ne 176, 3) := by decide +kernel
theorem dL_secrets_432 : decode cL_secrets 432 = .ok (.aload_n 0, 1) := by decide +kernel
theorem dL_secrets_433 : decode cL_secrets 433 = .ok (.iconst (-1), 1) := by decide +kernel
theorem dL_secrets_434 : decode cL_secrets 434 = .ok (.iconst (-1), 1) := by decide +kernel
theorem dL_secrets_435 : decode cL_secrets 435 = .ok (.iconst 0, 1) := by decide +kernel
theorem dL_secrets_436 : decode cL_secrets 436 = .ok (.bipush 11, 2) := by decide +kernel
theorem dL_secrets_438 : decode cL_secrets 438 = .ok (.iconst 1, 1) := by decide +kernel
theorem dL_secrets_439 : decode cL_secrets 439 = .ok (.iconst 3, 1) := by decide +kernel
theorem dL_secrets_440 : decode cL_secrets 440 = .ok (.invokestatic 76, 3) := by decide +kernel
theorem dL_secrets_443 : decode cL_secrets 443 = .ok (.sipush 5022, 3) := by decide +kernel
theorem dL_secrets_446 : decode cL_secrets 446 = .ok (.if_icmp .ne 159, 3) := by decide +kernel
theorem dL_secrets_449 : decode cL_secrets 449 = .ok (.aload_n 0, 1) := by decide +kernel
theorem dL_secrets_450 : decode cL_secrets 450 = .ok (.iconst (-1), 1) := by decide +kernel
theorem dL_secrets_451 : decode cL_secrets 451 = .ok (.iconst (-1), 1) := by decide +kernel
theorem dL_secrets_452 : decode cL_secrets 452 = .ok (.iconst 0, 1) := by decide +kernel
theorem dL_secrets_453 : decode cL_secrets 453 = .ok (.bipush 11, 2) := by decide +kernel
theorem dL_secrets_455 : decode cL_secrets 455 = .ok (.iconst 1, 1) := by decide +kernel
theorem dL_secrets_456 : decode cL_secrets 456 = .ok (.iconst 4, 1) := by decide +kernel
theorem dL_secrets_457 : decode cL_secrets 457 = .ok (.invokestatic 76, 3) := by decide +kernel
theorem dL_secrets_460 : decode cL_secrets 460 = .ok (.iconst (-1), 1) := by decide +kernel
theorem dL_secrets_461 : decode cL_secrets 461 = .ok (.if_icmp .ne 144, 3) := by decide +kernel
theorem dL_secrets_464 : decode cL_secrets 464 = .ok (.aload_n 0, 1) := by decide +kernel
theorem dL_secrets_465 : decode cL_secrets 465 = .ok (.iconst (-1), 1) := by decide +kernel
theorem dL_secrets_466 : decode cL_secrets 466 = .ok (.iconst (-1), 1) := by decide +kernel
theorem dL_secrets_467 : decode cL_secrets 467 = .ok (.iconst 0, 1) := by decide +kernel
theorem dL_secrets_468 : decode cL_secrets 468 = .ok (.bipush 11, 2) := by decide +kernel
theorem dL_secrets_470 : decode cL_secrets 470 = .ok (.iconst 3, 1) := by decide +kernel
theorem dL_secrets_471 : decode cL_secrets 471 = .ok (.iconst 0, 1) := by decide +kernel
theorem dL_secrets_472 : decode cL_secrets 472 = .ok (.invokestatic 76, 3) := by decide +kernel
theorem dL_secrets_475 : decode cL_secrets 475 = .ok (.iconst (-1), 1) := by decide +kernel
theorem dL_secrets_476 : decode cL_secrets 476 = .ok (.if_icmp .ne 129, 3) := by decide +kernel
theorem dL_secrets_479 : decode cL_secrets 479 = .ok (.aload_n 0, 1) := by decide +kernel
theorem dL_secrets_480 : decode cL_secrets 480 = .ok (.iconst 2, 1) := by decide +kernel
theorem dL_secrets_481 : decode cL_secrets 481 = .ok (.iconst (-1), 1) := by decide +kernel
theorem dL_secrets_482 : decode cL_secrets 482 = .ok (.iconst 0, 1) := by decide +kernel
theorem dL_secrets_483 : decode cL_secrets 483 = .ok (.bipush 11, 2) := by decide +kernel
theorem dL_secrets_485 : decode cL_secrets 485 = .ok (.iconst 0, 1) := by decide +kernel
theorem dL_secrets_486 : decode cL_secrets 486 = .ok (.iconst 0, 1) := by decide +kernel
theorem dL_secrets_487 : decode cL_secrets 487 = .ok (.invokestatic 76, 3) := by decide +kernel
theorem dL_secrets_490 : decode cL_secrets 490 = .ok (.sipush 5041, 3) := by decide +kernel
theorem dL_secrets_493 : decode cL_secrets 493 = .ok (.if_icmp .ne 112, 3) := by decide +kernel
theorem dL_secrets_496 : decode cL_secrets 496 = .ok (.aload_n 0, 1) := by decide +kernel
theorem dL_secrets_497 : decode cL_secrets 497 = .ok (.iconst 2, 1) := by decide +kernel
theorem dL_secrets_498 : decode cL_secrets 498 = .ok (.iconst (-1), 1) := by decide +kernel
theorem dL_secrets_499 : decode cL_secrets 499 = .ok (.iconst 0, 1) := by decide +kernel
theorem dL_secrets_500 : decode cL_secrets 500 = .ok (.bipush 11, 2) := by decide +kernel
theorem dL_secrets_502 : decode cL_secrets 502 = .ok (.iconst 0, 1) := by decide +kernel
theorem dL_secrets_503 : decode cL_secrets 503 = .ok (.iconst 1, 1) := by decide +kernel
theorem dL_secrets_504 : decode cL_secrets 504 = .ok (.invokestatic 76, 3) := by decide +kernel
theorem dL_secrets_507 : decode cL_secrets 507 = .ok (.sipush 5062, 3) := by decide +kernel
theorem dL_secrets_510 : decode cL_secrets 510 = .ok (.if_icmp .ne 95, 3) := by decide +kernel
theorem dL_secrets_513 : decode cL_secrets 513 = .ok (.aload_n 0, 1) := by decide +kernel
theorem dL_secrets_514 : decode cL_secrets 514 = .ok (.iconst 2, 1) := by decide +kernel
theorem dL_secrets_515 : decode cL_secrets 515 = .ok (.iconst (-1), 1) := by decide +kernel
theorem dL_secrets_516 : decode cL_secrets 516 = .ok (.iconst 0, 1) := by decide +kernel
theorem dL_secrets_517 : decode cL_secrets 517 = .ok (.bipush 11, 2) := by decide +kernel
theorem dL_secrets_519 : decode cL_secrets 519 = .ok (.iconst 0, 1) := by decide +kernel
theorem dL_secrets_520 : decode cL_secrets 520 = .ok (.iconst 2, 1) := by decide +kernel
theorem dL_secrets_521 : decode cL_secrets 521 = .ok (.invokestatic 76, 3) := by decide +kernel
theorem dL_secrets_524 : decode cL_secrets 524 = .ok (.iconst (-1), 1) := by decide +kernel
theorem dL_secrets_525 : decode cL_secrets 525 = .ok (.if_icmp .ne 80, 3) := by decide +kernel
theorem dL_secrets_528 : decode cL_secrets 528 = .ok (.aload_n 0, 1) := by decide +kernel
theorem dL_secrets_529 : decode cL_secrets 529 = .ok (.iconst (-1), 1) := by decide +kernel
theorem dL_secrets_530 : decode cL_secrets 530 = .ok (.iconst 2, 1) := by decide +kernel
theorem dL_secrets_531 : decode cL_secrets 531 = .ok (.iconst 5, 1) := by decide +kernel
theorem dL_secrets_532 : decode cL_secrets 532 = .ok (.iconst 5, 1) := by decide +kernel
theorem dL_secrets_533 : decode cL_secrets 533 = .ok (.iconst 0, 1) := by decide +kernel
theorem dL_secrets_534 : decode cL_secrets 534 = .ok (.iconst 0, 1) := by decide +kernel
theorem dL_secrets_535 : decode cL_secrets 535 = .ok (.invokestatic 76, 3) := by decide +kernel
theorem dL_secrets_538 : decode cL_secrets 538 = .ok (.sipush 5022, 3) := by decide +kernel
theorem dL_secrets_541 : decode cL_secrets 541 = .ok (.if_icmp .ne 64, 3) := by decide +kernel
theorem dL_secrets_544 : decode cL_secrets 544 = .ok (.aload_n 0, 1) := by decide +kernel
theorem dL_secrets_545 : decode cL_secrets 545 = .ok (.iconst (-1), 1) := by decide +kernel
theorem dL_secrets_546 : decode cL_secrets 546 = .ok (.iconst 2, 1) := by decide +kernel
theorem dL_secrets_547 : decode cL_secrets 547 = .ok (.iconst 5, 1) := by decide +kernel
theorem dL_secrets_548 : decode cL_secrets 548 = .ok (.iconst 5, 1) := by decide +kernel
theorem dL_secrets_549 : decode cL_secrets 549 = .ok (.iconst 2, 1) := by decide +kernel
theorem dL_secrets_550 : decode cL_secrets 550 = .ok (.iconst 1, 1) := by decide +kernel
theorem dL_secrets_551 : decode cL_secrets 551 = .ok (.invokestatic 76, 3) := by decide +kernel
theorem dL_secrets_554 : decode cL_secrets 554 = .ok (.iconst (-1), 1) := by decide +kernel
theorem dL_secrets_555 : decode cL_secrets 555 = .ok (.if_icmp .ne 50, 3) := by decide +kernel
theorem dL_secrets_558 : decode cL_secrets 558 = .ok (.aload_n 0, 1) := by decide +kernel
theorem dL_secrets_559 : decode cL_secrets 559 = .ok (.iconst 0, 1) := by decide +kernel
theorem dL_secrets_560 : decode cL_secrets 560 = .ok (.iconst 0, 1) := by decide +kernel
theorem dL_secrets_561 : decode cL_secrets 561 = .ok (.iconst 0, 1) := by decide +kernel
theorem dL_secrets_562 : decode cL_secrets 562 = .ok (.bipush 11, 2) := by decide +kernel
theorem dL_secrets_564 : decode cL_secrets 564 = .ok (.iconst 0, 1) := by decide +kernel
theorem dL_secrets_565 : decode cL_secrets 565 = .ok (.iconst 5, 1) := by decide +kernel
theorem dL_secrets_566 : decode cL_secrets 566 = .ok (.invokestatic 76, 3) := by decide +kernel
theorem dL_secrets_569 : decode cL_secrets 569 = .ok (.sipush 5062, 3) := by decide +kernel
theorem dL_secrets_572 : decode cL_secrets 572 = .ok (.if_icmp .ne 33, 3) := by decide +kernel
theorem dL_secrets_575 : decode cL_secrets 575 = .ok (.aload_n 0, 1) := by decide +kernel
theorem dL_secrets_576 : decode cL_secrets 576 = .ok (.iconst (-1), 1) := by decide +kernel
theorem dL_secrets_577 : decode cL_secrets 577 = .ok (.iconst (-1), 1) := by decide +kernel
theorem dL_secrets_578 : decode cL_secrets 578 = .ok (.bipush 6, 2) := by decide +kernel
theorem dL_secrets_580 : decode cL_secrets 580 = .ok (.bipush 11, 2) := by decide +kernel
theorem dL_secrets_582 : decode cL_secrets 582 = .ok (.iconst 0, 1) := by decide +kernel
theorem dL_secrets_583 : decode cL_secrets 583 = .ok (.iconst 0, 1) := by decide +kernel
theorem dL_secrets_584 : decode cL_secrets 584 = .ok (.invokestatic 76, 3) := by decide +kernel
theorem dL_secrets_587 : decode cL_secrets 587 = .ok (.iconst (-1), 1) := by decide +kernel
theorem dL_secrets_588 : decode cL_secrets 588 = .ok (.if_icmp .ne 17, 3) := by decide +kernel
theorem dL_secrets_591 : decode cL_secrets 591 = .ok (.aload_n 0, 1) := by decide +kernel
theorem dL_secrets_592 : decode cL_secrets 592 = .ok (.iconst (-1), 1) := by decide +kernel
theorem dL_secrets_593 : decode cL_secrets 593 = .ok (.iconst (-1), 1) := by decide +kernel
theorem dL_secrets_594 : decode cL_secrets 594 = .ok (.iconst 0, 1) := by decide +kernel
theorem dL_secrets_595 : decode cL_secrets 595 = .ok (.iconst 4, 1) := by decide +kernel
theorem dL_secrets_596 : decode cL_secrets 596 = .ok (.iconst 0, 1) := by decide +kernel
theorem dL_secrets_597 : decode cL_secrets 597 = .ok (.iconst 0, 1) := by decide +kernel
theorem dL_secrets_598 : decode cL_secrets 598 = .ok (.invokestatic 76, 3) := by decide +kernel
theorem dL_secrets_601 : decode cL_secrets 601 = .ok (.iconst (-1), 1) := by decide +kernel
theorem dL_secrets_602 : decode cL_secrets 602 = .ok (.if_icmp .eq 5, 3) := by decide +kernel
theorem dL_secrets_605 : decode cL_secrets 605 = .ok (.iconst 0, 1) := by decide +kernel
theorem dL_secrets_606 : decode cL_secrets 606 = .ok (.ireturn, 1) := by decide +kernel
theorem dL_secrets_607 : decode cL_secrets 607 = .ok (.aload_n 0, 1) := by decide +kernel
theorem dL_secrets_608 : decode cL_secrets 608 = .ok (.iconst 0, 1) := by decide +kernel
theorem dL_secrets_609 : decode cL_secrets 609 = .ok (.iconst 3, 1) := by decide +kernel
theorem dL_secrets_610 : decode cL_secrets 610 = .ok (.iconst 1, 1) := by decide +kernel
theorem dL_secrets_611 : decode cL_secrets 611 = .ok (.iconst 5, 1) := by decide +kernel
theorem dL_secrets_612 : decode cL_secrets 612 = .ok (.bipush 7, 2) := by decide +kernel
theorem dL_secrets_614 : decode cL_secrets 614 = .ok (.invokevirtual 20, 3) := by decide +kernel
theorem dL_secrets_617 : decode cL_secrets 617 = .ok (.iconst 1, 1) := by decide +kernel
theorem dL_secrets_618 : decode cL_secrets 618 = .ok (.if_icmp .ne 167, 3) := by decide +kernel
theorem dL_secrets_621 : decode cL_secrets 621 = .ok (.aload_n 0, 1) := by decide +kernel
theorem dL_secrets_622 : decode cL_secrets 622 = .ok (.iconst 1, 1) := by decide +kernel
theorem dL_secrets_623 : decode cL_secrets 623 = .ok (.invokevirtual 24, 3) := by decide +kernel
theorem dL_secrets_626 : decode cL_secrets 626 = .ok (.iconst 1, 1) := by decide +kernel
theorem dL_secrets_627 : decode cL_secrets 627 = .ok (.if_icmp .ne 158, 3) := by decide +kernel
theorem dL_secrets_630 : decode cL_secrets 630 = .ok (.aload_n 0, 1) := by decide +kernel
theorem dL_secrets_631 : decode cL_secrets 631 = .ok (.iconst 5, 1) := by decide +kernel
theorem dL_secrets_632 : decode cL_secrets 632 = .ok (.invokevirtual 58, 3) := by decide +kernel
theorem dL_secrets_635 : decode cL_secrets 635 = .ok (.bipush 6, 2) := by decide +kernel
theorem dL_secrets_637 : decode cL_secrets 637 = .ok (.if_icmp .ne 148, 3) := by decide +kernel
theorem dL_secrets_640 : decode cL_secrets 640 = .ok (.aload_n 0, 1) := by decide +kernel
theorem dL_secrets_641 : decode cL_secrets 641 = .ok (.iconst 3, 1) := by decide +kernel
theorem dL_secrets_642 : decode cL_secrets 642 = .ok (.iconst 1, 1) := by decide +kernel
theorem dL_secrets_643 : decode cL_secrets 643 = .ok (.iconst 5, 1) := by decide +kernel
theorem dL_secrets_644 : decode cL_secrets 644 = .ok (.invokevirtual 55, 3) := by decide +kernel
theorem dL_secrets_647 : decode cL_secrets 647 = .ok (.ldc 108, 2) := by decide +kernel
theorem dL_secrets_649 : decode cL_secrets 649 = .ok (.if_icmp .ne 136, 3) := by decide +kernel
theorem dL_secrets_652 : decode cL_secrets 652 = .ok (.aload_n 0, 1) := by decide +kernel
theorem dL_secrets_653 : decode cL_secrets 653 = .ok (.iconst 2, 1) := by decide +kernel
theorem dL_secrets_654 : decode cL_secrets 654 = .ok (.iconst 1, 1) := by decide +kernel
theorem dL_secrets_655 : decode cL_secrets 655 = .ok (.iconst 5, 1) := by decide +kernel
theorem dL_secrets_656 : decode cL_secrets 656 = .ok (.invokevirtual 55, 3) := by decide +kernel
theorem dL_secrets_659 : decode cL_secrets 659 = .ok (.ldc 108, 2) := by decide +kernel
theorem dL_secrets_661 : decode cL_secrets 661 = .ok (.if_icmp .ne 124, 3) := by decide +kernel
theorem dL_secrets_664 : decode cL_secrets 664 = .ok (.aload_n 0, 1) := by decide +kernel
theorem dL_secrets_665 : decode cL_secrets 665 = .ok (.iconst 1, 1) := by decide +kernel
theorem dL_secrets_666 : decode cL_secrets 666 = .ok (.iconst 1, 1) := by decide +kernel
theorem dL_secrets_667 : decode cL_secrets 667 = .ok (.iconst 5, 1) := by decide +kernel
theorem dL_secrets_668 : decode cL_secrets 668 = .ok (.invokevirtual 55, 3) := by decide +kernel
theorem dL_secrets_671 : decode cL_secrets 671 = .ok (.ldc 108, 2) := by decide +kernel
theorem dL_secrets_673 : decode cL_secrets 673 = .ok (.if_icmp .ne 112, 3) := by decide +kernel
theorem dL_secrets_676 : decode cL_secrets 676 = .ok (.aload_n 0, 1) := by decide +kernel
theorem dL_secrets_677 : decode cL_secrets 677 = .ok (.iconst 1, 1) := by decide +kernel
theorem dL_secrets_678 : decode cL_secrets 678 = .ok (.iconst 2, 1) := by decide +kernel
theorem dL_secrets_679 : decode cL_secrets 679 = .ok (.iconst 5, 1) := by decide +kernel
theorem dL_secrets_680 : decode cL_secrets 680 = .ok (.invokevirtual 55, 3) := by decide +kernel
theorem dL_secrets_683 : decode cL_secrets 683 = .ok (.ldc 108, 2) := by decide +kernel
theorem dL_secrets_685 : decode cL_secrets 685 = .ok (.if_icmp .ne 100, 3) := by decide +kernel
theorem dL_secrets_688 : decode cL_secrets 688 = .ok (.aload_n 0, 1) := by decide +kernel
theorem dL_secrets_689 : decode cL_secrets 689 = .ok (.iconst 3, 1) := by decide +kernel
theorem dL_secrets_690 : decode cL_secrets 690 = .ok (.iconst 2, 1) := by decide +kernel
theorem dL_secrets_691 : decode cL_secrets 691 = .ok (.iconst 5, 1) := by decide +kernel
theorem dL_secrets_692 : decode cL_secrets 692 = .ok (.invokevirtual 55, 3) := by decide +kernel
theorem dL_secrets_695 : decode cL_secrets 695 = .ok (.ldc 108, 2) := by decide +kernel
theorem dL_secrets_697 : decode cL_secrets 697 = .ok (.if_icmp .ne 88, 3) := by decide +kernel
theorem dL_secrets_700 : decode cL_secrets 700 = .ok (.aload_n 0, 1) := by decide +kernel
theorem dL_secrets_701 : decode cL_secrets 701 = .ok (.iconst 2, 1) := by decide +kernel
theorem dL_secrets_702 : decode cL_secrets 702 = .ok (.iconst 0, 1) := by decide +kernel
theorem dL_secrets_703 : decode cL_secrets 703 = .ok (.iconst 5, 1) := by decide +kernel
theorem dL_secrets_704 : decode cL_secrets 704 = .ok (.invokevirtual 55, 3) := by decide +kernel
theorem dL_secrets_707 : decode cL_secrets 707 = .ok (.iconst 4, 1) := by decide +kernel
theorem dL_secrets_708 : decode cL_secrets 708 = .ok (.if_icmp .ne 77, 3) := by decide +kernel
theorem dL_secrets_711 : decode cL_secrets 711 = .ok (.aload_n 0, 1) := by decide +kernel
theorem dL_secrets_712 : decode cL_secrets 712 = .ok (.iconst 3, 1) := by decide +kernel
theorem dL_secrets_713 : decode cL_secrets 713 = .ok (.iconst 0, 1) := by decide +kernel
theorem dL_secrets_714 : decode cL_secrets 714 = .ok (.iconst 5, 1) := by decide +kernel
theorem dL_secrets_715 : decode cL_secrets 715 = .ok (.invokevirtual 55, 3) := by decide +kernel
theorem dL_secrets_718 : decode cL_secrets 718 = .ok (.iconst 4, 1) := by decide +kernel
theorem dL_secrets_719 : decode cL_secrets 719 = .ok (.if_icmp .ne 66, 3) := by decide +kernel
theorem dL_secrets_722 : decode cL_secrets 722 = .ok (.aload_n 0, 1) := by decide +kernel
theorem dL_secrets_723 : decode cL_secrets 723 = .ok (.iconst 0, 1) := by decide +kernel
theorem dL_secrets_724 : decode cL_secrets 724 = .ok (.iconst 0, 1) := by decide +kernel
theorem dL_secrets_725 : decode cL_secrets 725 = .ok (.iconst 0, 1) := by decide +kernel
theorem dL_secrets_726 : decode cL_secrets 726 = .ok (.invokevirtual 16, 3) := by decide +kernel
theorem dL_secrets_729 : decode cL_secrets 729 = .ok (.ifCond .eq 56, 3) := by decide +kernel
theorem dL_secrets_732 : decode cL_secrets 732 = .ok (.aload_n 0, 1) := by decide +kernel
theorem dL_secrets_733 : decode cL_secrets 733 = .ok (.iconst 0, 1) := by decide +kernel
theorem dL_secrets_734 : decode cL_secrets 734 = .ok (.iconst 1, 1) := by decide +kernel
theorem dL_secrets_735 : decode cL_secrets 735 = .ok (.invokevirtual 61, 3) := by decide +kernel
theorem dL_secrets_738 : decode cL_secrets 738 = .ok (.ifCond .ne 47, 3) := by decide +kernel
theorem dL_secrets_741 : decode cL_secrets 741 = .ok (.aload_n 0, 1) := by decide +kernel
theorem dL_secrets_742 : decode cL_secrets 742 = .ok (.iconst 2, 1) := by decide +kernel
theorem dL_secrets_743 : decode cL_secrets 743 = .ok (.iconst 1, 1) := by decide +kernel
theorem dL_secrets_744 : decode cL_secrets 744 = .ok (.iconst 1, 1) := by decide +kernel
theorem dL_secrets_745 : decode cL_secrets 745 = .ok (.iconst 5, 1) := by decide +kernel
theorem dL_secrets_746 : decode cL_secrets 746 = .ok (.iconst 0, 1) := by decide +kernel
theorem dL_secrets_747 : decode cL_secrets 747 = .ok (.invokevirtual 20, 3) := by decide +kernel
theorem dL_secrets_750 : decode cL_secrets 750 = .ok (.iconst 1, 1) := by decide +kernel
theorem dL_secrets_751 : decode cL_secrets 751 = .ok (.if_icmp .ne 34, 3) := by decide +kernel
theorem dL_secrets_754 : decode cL_secrets 754 = .ok (.aload_n 0, 1) := by decide +kernel
theorem dL_secrets_755 : decode cL_secrets 755 = .ok (.iconst 0, 1) := by decide +kernel
theorem dL_secrets_756 : decode cL_secrets 756 = .ok (.invokevirtual 24, 3) := by decide +kernel
theorem dL_secrets_759 : decode cL_secrets 759 = .ok (.ifCond .ne 26, 3) := by decide +kernel
theorem dL_secrets_762 : decode cL_secrets 762 = .ok (.aload_n 0, 1) := by decide +kernel
theorem dL_secrets_763 : decode cL_secrets 763 = .ok (.iconst 0, 1) := by decide +kernel
theorem dL_secrets_764 : decode cL_secrets 764 = .ok (.invokevirtual 27, 3) := by decide +kernel
theorem dL_secrets_767 : decode cL_secrets 767 = .ok (.iconst 1, 1) := by decide +kernel
theorem dL_secrets_768 : decode cL_secrets 768 = .ok (.if_icmp .ne 17, 3) := by decide +kernel
theorem dL_secrets_771 : decode cL_secrets 771 = .ok (.aload_n 0, 1) := by decide +kernel
theorem dL_secrets_772 : decode cL_secrets 772 = .ok (.iconst 4, 1) := by decide +kernel
theorem dL_secrets_773 : decode cL_secrets 773 = .ok (.iconst 3, 1) := by decide +kernel
theorem dL_secrets_774 : decode cL_secrets 774 = .ok (.iconst 2, 1) := by decide +kernel
theorem dL_secrets_775 : decode cL_secrets 775 = .ok (.invokestatic 87, 3) := by decide +kernel
theorem dL_secrets_778 : decode cL_secrets 778 = .ok (.ifCond .eq 7, 3) := by decide +kernel
theorem dL_secrets_781 : decode cL_secrets 781 = .ok (.iconst 1, 1) := by decide +kernel
theorem dL_secrets_782 : decode cL_secrets 782 = .ok (.goto 4, 3) := by decide +kernel
theorem dL_secrets_785 : decode cL_secrets 785 = .ok (.iconst 0, 1) := by decide +kernel
theorem dL_secrets_786 : decode cL_secrets 786 = .ok (.ireturn, 1) := by decide +kernel
set_option maxRecDepth 20000 in
theorem ggL_signs_X5_init : GoodIn wsL_signs wsX5_init := goodIn_r _ [7, 8, 9, 10, 11, 12, 13, 14, 15, 16, 17, 18, 19, 20, 21, 22, 23, 24, 25, 26, 27, 28, 29, 30, 31, 32, 33, 34, 35, 36, 37, 38, 39, 40, 41, 42, 43, 44, 45, 46, 47, 48, 49, 50, 51, 52, 53, 54, 55, 56, 57, 58, 59, 60, 61, 62, 63, 64, 65, 66, 67, 68, 69, 70, 71, 72, 73, 349, 350, 351, 338, 339, 340, 341, 342, 343, 344, 345, 346, 347, 348, 352, 353, 354, 355, 356, 357, 358, 359, 360, 361, 362, 363, 364, 365, 366, 367] (by decide +kernel) (by decide +kernel)
set_option maxRecDepth 20000 in
theorem gL_signs_X5_init : GoodIn wsL_signs (wsX5_init) := ggL_signs_X5_init
set_option maxRecDepth 20000 in
theorem ggL_signs_X5_area : GoodIn wsL_signs wsX5_area := goodIn_ca (goodIn_ca (goodIn_r _ [77, 14, 78, 79, 3, 80, 81, 82, 83, 84, 85, 13, 86, 87, 88, 89, 90, 91, 92, 93, 94, 95, 96, 40, 97, 98, 99, 100, 338, 339, 340, 341, 342, 343, 344, 345, 346, 347, 348, 349, 350, 351] (by decide +kernel) (by decide +kernel)) (goodIn_sub (fun _ h => List.mem_cons_of_mem _ (List.mem_append_left _ (List.mem_append_left _ (List.mem_append_right _ h)))) (by decide +kernel))) (goodIn_sub (fun _ h => List.mem_cons_of_mem _ (List.mem_append_left _ (List.mem_append_right _ h))) (by decide +kernel))
set_option maxRecDepth 20000 in
theorem gL_signs_X5_area : GoodIn wsL_signs (wsV RL 7 RX5 yX5_area wsX5_area) := goodIn_app (goodIn_of _ (by decide +kernel)) ggL_signs_X5_area
set_option maxRecDepth 20000 in
theorem ggL_signs_X5_item : GoodIn wsL_signs wsX5_item := goodIn_ca (goodIn_ca (goodIn_r _ [104, 15, 78, 79, 3, 80, 81, 82, 83, 84, 85, 13, 86, 87, 88, 89, 90, 91, 92, 93, 94, 95, 96, 40, 97, 98, 99, 100, 338, 339, 340, 341, 342, 343, 344, 345, 346, 347, 348, 349, 350, 351] (by decide +kernel) (by decide +kernel)) (goodIn_sub (fun _ h => List.mem_cons_of_mem _ (List.mem_append_left _ (List.mem_append_left _ (List.mem_append_right _ h)))) (by decide +kernel))) (goodIn_sub (fun _ h => List.mem_cons_of_mem _ (List.mem_append_left _ (List.mem_append_right _ h))) (by decide +kernel))
set_option maxRecDepth 20000 in
theorem gL_signs_X5_item : GoodIn wsL_signs (wsV RL 13 RX5 yX5_item wsX5_item) := goodIn_app (goodIn_of _ (by decide +kernel)) ggL_signs_X5_item
set_option maxRecDepth 20000 in
theorem ggL_signs_X5_agree : GoodIn wsL_signs wsX5_agree := goodIn_ca (goodIn_r _ [108, 19, 109, 110, 3, 111, 81, 82, 112, 113, 114, 115, 14, 83, 84, 85, 13, 86, 87, 116, 117, 118, 18, 119, 45, 338, 339, 340, 341, 342, 343, 344, 345, 346, 347, 348, 349, 350, 351, 352] (by decide +kernel) (by decide +kernel)) (goodIn_sub (fun _ h => List.mem_cons_of_mem _ (List.mem_append_left _ (List.mem_append_left _ (List.mem_append_right _ h)))) (by decide +kernel))
set_option maxRecDepth 20000 in
theorem gL_signs_X5_agree : GoodIn wsL_signs (wsV RL 16 RX5 yX5_agree wsX5_agree) := goodIn_app (goodIn_of _ (by decide +kernel)) ggL_signs_X5_agree
set_option maxRecDepth 20000 in
theorem ggL_signs_X5_put : GoodIn wsL_signs wsX5_put := goodIn_ca (goodIn_ca (goodIn_ca (goodIn_r _ [123, 124, 125, 91, 92, 126, 127, 23, 128, 129, 130, 3, 131, 81, 82, 14, 15, 83, 84, 85, 13, 86, 87, 132, 133, 134, 135, 136, 137, 138, 139, 140, 141, 142, 143, 22, 144, 145, 146, 147, 148, 149, 49, 50, 51, 52, 338, 339, 340, 341, 342, 343, 344, 345, 346, 347, 348, 349, 350, 351, 353, 354, 355, 356, 357] (by decide +kernel) (by decide +kernel)) (goodIn_sub (fun _ h => List.mem_cons_of_mem _ (List.mem_append_right _ h)) (by decide +kernel))) (goodIn_sub (fun _ h => List.mem_cons_of_mem _ (List.mem_append_left _ (List.mem_append_right _ h))) (by decide +kernel))) (goodIn_sub (fun _ h => List.mem_cons_of_mem _ (List.mem_append_left _ (List.mem_append_left _ (List.mem_append_right _ h)))) (by decide +kernel))
set_option maxRecDepth 20000 in
theorem gL_signs_X5_put : GoodIn wsL_signs (wsV RL 20 RX5 yX5_put wsX5_put) := goodIn_app (goodIn_of _ (by decide +kernel)) ggL_signs_X5_put
set_option maxRecDepth 20000 in
theorem ggL_signs_X5_send : GoodIn wsL_signs wsX5_send := goodIn_ca (goodIn_ca (goodIn_r _ [153, 91, 92, 23, 154, 109, 110, 3, 111, 81, 82, 155, 156, 157, 158, 35, 27, 159, 160, 161, 162, 163, 164, 19, 14, 165, 166, 167, 168, 18, 169, 45, 170, 171, 172, 13, 173, 87, 40, 174, 84, 85, 86, 175, 176, 177, 22, 178, 49, 179, 52, 180, 181, 182, 26, 183, 184, 61, 62, 63, 59, 58, 57, 60, 185, 186, 187, 188, 145, 338, 339, 340, 341, 342, 343, 344, 345, 346, 347, 348, 353, 354, 355, 356, 357, 358, 359, 360, 361, 362, 363, 364, 365, 349, 350, 351, 352] (by decide +kernel) (by decide +kernel)) (goodIn_sub (fun _ h => List.mem_cons_of_mem _ (List.mem_append_left _ (List.mem_append_right _ h))) (by decide +kernel))) (goodIn_sub (fun _ h => List.mem_cons_of_mem _ (List.mem_append_left _ (List.mem_append_left _ (List.mem_append_right _ h)))) (by decide +kernel))
set_option maxRecDepth 20000 in
theorem gL_signs_X5_send : GoodIn wsL_signs (wsV RL 24 RX5 yX5_send wsX5_send) := goodIn_app (goodIn_of _ (by decide +kernel)) ggL_signs_X5_send
set_option maxRecDepth 20000 in
theorem ggL_signs_X5_value : GoodIn wsL_signs wsX5_value := goodIn_ca (goodIn_ca (goodIn_r _ [192, 31, 27, 14, 15, 128, 129, 130, 3, 131, 81, 82, 83, 84, 85, 13, 86, 87, 132, 133, 134, 135, 136, 137, 138, 139, 140, 193, 194, 195, 196, 124, 125, 159, 197, 198, 199, 30, 200, 72, 201, 202, 203, 204, 205, 206, 66, 67, 68, 207, 208, 209, 210, 211, 212, 213, 214, 40, 215, 216, 217, 218, 219, 220, 221, 222, 338, 339, 340, 341, 342, 343, 344, 345, 346, 347, 348, 349, 350, 351, 366, 367, 358, 359, 360, 361, 362, 363, 364, 365] (by decide +kernel) (by decide +kernel)) (goodIn_sub (fun _ h => List.mem_cons_of_mem _ (List.mem_append_left _ (List.mem_append_left _ (List.mem_append_right _ h)))) (by decide +kernel))) (goodIn_sub (fun _ h => List.mem_cons_of_mem _ (List.mem_append_right _ h)) (by decide +kernel))
set_option maxRecDepth 20000 in
theorem gL_signs_X5_value : GoodIn wsL_signs (wsV RL 41 RX5 yX5_value wsX5_value) := goodIn_app (goodIn_of _ (by decide +kernel)) ggL_signs_X5_value
set_option maxRecDepth 20000 in
theorem ggL_signs_X5_secret : GoodIn wsL_signs wsX5_secret := goodIn_ca (goodIn_r _ [226, 33, 31, 128, 129, 130, 3, 131, 81, 82, 14, 15, 83, 84, 85, 13, 86, 87, 132, 133, 134, 135, 136, 137, 138, 139, 140, 227, 228, 229, 230, 27, 159, 197, 198, 199, 30, 200, 72, 201, 202, 203, 204, 205, 206, 66, 67, 68, 207, 208, 209, 210, 211, 212, 213, 214, 40, 215, 216, 217, 218, 219, 220, 221, 231, 232, 233, 234, 73, 235, 236, 237, 238, 239, 240, 241, 242, 243, 244, 245, 246, 247, 248, 249, 250, 251, 252, 253, 254, 255, 256, 257, 258, 259, 260, 261, 262, 338, 339, 340, 341, 342, 343, 344, 345, 346, 347, 348, 349, 350, 351, 366, 367, 358, 359, 360, 361, 362, 363, 364, 365] (by decide +kernel) (by decide +kernel)) (goodIn_sub (fun _ h => List.mem_cons_of_mem _ (List.mem_append_left _ (List.mem_append_left _ (List.mem_append_right _ h)))) (by decide +kernel))
set_option maxRecDepth 20000 in
theorem gL_signs_X5_secret : GoodIn wsL_signs (wsV RL 30 RX5 yX5_secret wsX5_secret) := goodIn_app (goodIn_of _ (by decide +kernel)) ggL_signs_X5_secret
set_option maxRecDepth 20000 in
theorem ggL_signs_X5_shown : GoodIn wsL_signs wsX5_shown := goodIn_ca (goodIn_r _ [266, 31, 267, 128, 129, 130, 3, 131, 81, 82, 14, 15, 83, 84, 85, 13, 86, 87, 132, 133, 134, 135, 136, 137, 138, 139, 140, 227, 228, 229, 230, 27, 159, 33, 197, 198, 199, 30, 200, 72, 201, 202, 203, 204, 205, 206, 66, 67, 68, 207, 208, 209, 210, 211, 212, 213, 214, 40, 215, 216, 217, 218, 219, 220, 221, 231, 232, 233, 234, 73, 235, 236, 237, 238, 239, 240, 241, 242, 243, 244, 245, 246, 247, 248, 249, 250, 251, 252, 253, 254, 255, 256, 257, 258, 268, 222, 338, 339, 340, 341, 342, 343, 344, 345, 346, 347, 348, 349, 350, 351, 366, 367, 358, 359, 360, 361, 362, 363, 364, 365] (by decide +kernel) (by decide +kernel)) (goodIn_sub (fun _ h => List.mem_cons_of_mem _ (List.mem_append_left _ (List.mem_append_left _ (List.mem_append_right _ h)))) (by decide +kernel))
set_option maxRecDepth 20000 in
theorem gL_signs_X5_shown : GoodIn wsL_signs (wsV RL 55 RX5 yX5_shown wsX5_shown) := goodIn_app (goodIn_of _ (by decide +kernel)) ggL_signs_X5_shown
set_option maxRecDepth 20000 in
theorem ggL_signs_X5_hidden : GoodIn wsL_signs wsX5_hidden := goodIn_ca (goodIn_r _ [272, 81, 82, 31, 132, 133, 3, 134, 227, 228, 229, 230, 27, 159, 14, 15, 33, 197, 198, 199, 30, 200, 72, 201, 202, 203, 204, 205, 206, 66, 67, 68, 139, 140, 207, 208, 209, 210, 211, 212, 213, 13, 214, 87, 40, 215, 216, 217, 218, 219, 220, 221, 231, 232, 233, 234, 73, 235, 236, 237, 238, 239, 240, 241, 242, 243, 244, 245, 246, 247, 248, 249, 250, 251, 252, 253, 254, 255, 256, 257, 258, 259, 260, 261, 262, 338, 339, 340, 341, 342, 343, 344, 345, 346, 347, 348, 349, 350, 351, 366, 367, 358, 359, 360, 361, 362, 363, 364, 365] (by decide +kernel) (by decide +kernel)) (goodIn_sub (fun _ h => List.mem_cons_of_mem _ (List.mem_append_left _ (List.mem_append_left _ (List.mem_append_right _ h)))) (by decide +kernel))
set_option maxRecDepth 20000 in
theorem gL_signs_X5_hidden : GoodIn wsL_signs (wsV RL 58 RX5 yX5_hidden wsX5_hidden) := goodIn_app (goodIn_of _ (by decide +kernel)) ggL_signs_X5_hidden
set_option maxRecDepth 20000 in
theorem ggL_signs_X5_hasFault : GoodIn wsL_signs wsX5_hasFault := goodIn_ca (goodIn_r _ [276, 27, 165, 31, 159, 14, 15, 128, 129, 130, 3, 131, 81, 82, 83, 84, 85, 13, 86, 87, 132, 133, 134, 135, 136, 137, 138, 139, 140, 197, 198, 199, 30, 200, 72, 201, 202, 203, 204, 205, 206, 66, 67, 68, 207, 208, 209, 210, 211, 212, 213, 214, 40, 215, 216, 217, 218, 219, 220, 221, 277, 278, 279, 280, 338, 339, 340, 341, 342, 343, 344, 345, 346, 347, 348, 358, 359, 360, 361, 362, 363, 364, 365, 349, 350, 351, 366, 367] (by decide +kernel) (by decide +kernel)) (goodIn_sub (fun _ h => List.mem_cons_of_mem _ (List.mem_append_left _ (List.mem_append_left _ (List.mem_append_right _ h)))) (by decide +kernel))
set_option maxRecDepth 20000 in
theorem gL_signs_X5_hasFault : GoodIn wsL_signs (wsV RL 51 RX5 yX5_hasFault wsX5_hasFault) := goodIn_app (goodIn_of _ (by decide +kernel)) ggL_signs_X5_hasFault
set_option maxRecDepth 20000 in
theorem ggL_signs_L_refuses : GoodIn wsL_signs wsL_refuses := goodIn_ca (goodIn_ca (goodIn_ca (goodIn_r _ [284, 285, 286, 287, 269, 270, 271, 3, 272, 81, 82, 31, 132, 133, 134, 227, 228, 229, 230, 27, 159, 14, 15, 33, 197, 198, 199, 30, 200, 72, 201, 202, 203, 204, 205, 206, 66, 67, 68, 139, 140, 207, 208, 209, 210, 211, 212, 213, 13, 214, 87, 40, 215, 216, 217, 218, 219, 220, 221, 231, 232, 233, 234, 73, 235, 236, 237, 238, 239, 240, 241, 242, 243, 244, 245, 246, 247, 248, 249, 250, 251, 252, 253, 254, 255, 256, 257, 258, 259, 260, 261, 262, 288, 289, 283, 290, 291, 292, 293, 294, 295, 296, 124, 125, 78, 79, 80, 83, 84, 85, 86, 297, 298, 299, 300, 135, 136, 137, 138, 301, 302, 303, 26, 304, 57, 64, 60, 305, 171, 172, 173, 174, 306, 307, 308, 309, 74, 75, 76, 77, 88, 89, 90, 91, 92, 93, 94, 95, 96, 97, 98, 99, 100, 101, 102, 103, 104, 105, 106, 107, 108, 19, 109, 110, 111, 112, 113, 114, 115, 116, 117, 118, 18, 119, 45, 120, 121, 122, 123, 126, 127, 23, 128, 129, 130, 131, 141, 142, 143, 22, 144, 145, 146, 147, 148, 149, 49, 50, 51, 52, 150, 151, 152, 153, 154, 155, 156, 157, 158, 35, 160, 161, 162, 163, 164, 165, 166, 167, 168, 169, 170, 175, 176, 177, 178, 179, 180, 181, 182, 183, 184, 61, 62, 63, 59, 58, 185, 186, 187, 188, 310, 311, 312, 313, 223, 224, 225, 226, 314, 315, 316, 317, 318, 319, 320, 321, 193, 194, 195, 196, 322, 323, 324, 325, 189, 190, 191, 192, 222, 326, 327, 328, 329, 330, 331, 332, 333, 273, 274, 275, 276, 277, 278, 279, 280, 263, 264, 265, 266, 267, 268, 334, 335, 336, 337, 338, 339, 340, 341, 342, 343, 344, 345, 346, 347, 348, 349, 350, 351, 366, 367, 358, 359, 360, 361, 362, 363, 364, 365, 352, 353, 354, 355, 356, 357] rfl (by decide +kernel)) (goodIn_sub (fun _ h => List.mem_cons_of_mem _ (List.mem_append_left _ (List.mem_append_left _ (List.mem_append_right _ h)))) (by decide +kernel))) (goodIn_sub (fun _ h => List.mem_cons_of_mem _ (List.mem_append_right _ h)) (by decide +kernel))) (goodIn_sub (fun _ h => List.mem_cons_of_mem _ (List.mem_append_left _ (List.mem_append_right _ h))) (by decide +kernel))
set_option maxRecDepth 20000 in
theorem gL_signs_L_refuses : GoodIn wsL_signs (va_wsS RL 87 yL_refuses wsL_refuses) := goodIn_app (goodIn_of _ (by decide +kernel)) ggL_signs_L_refuses
theorem dL_signs_0 : decode cL_signs 0 = .ok (.new 8, 3) := by decide +kernel
theorem dL_signs_3 : decode cL_signs 3 = .ok (.dup, 1) := by decide +kernel
theorem dL_signs_4 : decode cL_signs 4 = .ok (.invokespecial 86, 3) := by decide +kernel
theorem dL_signs_7 : decode cL_signs 7 = .ok (.astore_n 0, 1) := by decide +kernel
theorem dL_signs_8 : decode cL_signs 8 = .ok (.iconst 0, 1) := by decide +kernel
theorem dL_signs_9 : decode cL_signs 9 = .ok (.istore_n 1, 1) := by decide +kernel
theorem dL_signs_10 : decode cL_signs 10 = .ok (.iload_n 1, 1) := by decide +kernel
theorem dL_signs_11 : decode cL_signs 11 = .ok (.iconst 5, 1) := by decide +kernel
theorem dL_signs_12 : decode cL_signs 12 = .ok (.if_icmp .ge 37, 3) := by decide +kernel
theorem dL_signs_15 : decode cL_signs 15 = .ok (.aload_n 0, 1) := by decide +kernel
theorem dL_signs_16 : decode cL_signs 16 = .ok (.iload_n 1, 1) := by decide +kernel
theorem dL_signs_17 : decode cL_signs 17 = .ok (.ifCond .ne 7, 3) := by decide +kernel
theorem dL_signs_20 : decode cL_signs 20 = .ok (.iconst (-1), 1) := by decide +kernel
theorem dL_signs_21 : decode cL_signs 21 = .ok (.goto 13, 3) := by decide +kernel
theorem dL_signs_24 : decode cL_signs 24 = .ok (.iload_n 1, 1) := by decide +kernel
theorem dL_signs_25 : decode cL_signs 25 = .ok (.iconst 4, 1) := by decide +kernel
theorem dL_signs_26 : decode cL_signs 26 = .ok (.if_icmp .ne 7, 3) := by decide +kernel
theorem dL_signs_29 : decode cL_signs 29 = .ok (.iconst 3, 1) := by decide +kernel
theorem dL_signs_30 : decode cL_signs 30 = .ok (.goto 4, 3) := by decide +kernel
theorem dL_signs_33 : decode cL_signs 33 = .ok (.iconst 0, 1) := by decide +kernel
theorem dL_signs_34 : decode cL_signs 34 = .ok (.invokevirtual 7, 3) := by decide +kernel
theorem dL_signs_37 : decode cL_signs 37 = .ok (.iload_n 1, 1) := by decide +kernel
theorem dL_signs_38 : decode cL_signs 38 = .ok (.if_icmp .eq 5, 3) := by decide +kernel
theorem dL_signs_41 : decode cL_signs 41 = .ok (.iconst 0, 1) := by decide +kernel
theorem dL_signs_42 : decode cL_signs 42 = .ok (.ireturn, 1) := by decide +kernel
theorem dL_signs_43 : decode cL_signs 43 = .ok (.iinc 1 1, 3) := by decide +kernel
theorem dL_signs_46 : decode cL_signs 46 = .ok (.goto (-36), 3) := by decide +kernel
theorem dL_signs_49 : decode cL_signs 49 = .ok (.aload_n 0, 1) := by decide +kernel
theorem dL_signs_50 : decode cL_signs 50 = .ok (.iconst (-1), 1) := by decide +kernel
theorem dL_signs_51 : decode cL_signs 51 = .ok (.invokevirtual 13, 3) := by decide +kernel
theorem dL_signs_54 : decode cL_signs 54 = .ok (.ifCond .ne 306, 3) := by decide +kernel
theorem dL_signs_57 : decode cL_signs 57 = .ok (.aload_n 0, 1) := by decide +kernel
theorem dL_signs_58 : decode cL_signs 58 = .ok (.iconst 3, 1) := by decide +kernel
theorem dL_signs_59 : decode cL_signs 59 = .ok (.iconst 0, 1) := by decide +kernel
theorem dL_signs_60 : decode cL_signs 60 = .ok (.iconst 1, 1) := by decide +kernel
theorem dL_signs_61 : decode cL_signs 61 = .ok (.invokevirtual 16, 3) := by decide +kernel
theorem dL_signs_64 : decode cL_signs 64 = .ok (.ifCond .eq 296, 3) := by decide +kernel
theorem dL_signs_67 : decode cL_signs 67 = .ok (.aload_n 0, 1) := by decide +kernel
theorem dL_signs_68 : decode cL_signs 68 = .ok (.iconst 0, 1) := by decide +kernel
theorem dL_signs_69 : decode cL_signs 69 = .ok (.iconst 1, 1) := by decide +kernel
theorem dL_signs_70 : decode cL_signs 70 = .ok (.iconst 0, 1) := by decide +kernel
theorem dL_signs_71 : decode cL_signs 71 = .ok (.iconst 0, 1) := by decide +kernel
theorem dL_signs_72 : decode cL_signs 72 = .ok (.iconst 5, 1) := by decide +kernel
theorem dL_signs_73 : decode cL_signs 73 = .ok (.invokevirtual 20, 3) := by decide +kernel
theorem dL_signs_76 : decode cL_signs 76 = .ok (.iconst 1, 1) := by decide +kernel
theorem dL_signs_77 : decode cL_signs 77 = .ok (.if_icmp .ne 283, 3) := by decide +kernel
theorem dL_signs_80 : decode cL_signs 80 = .ok (.aload_n 0, 1) := by decide +kernel
theorem dL_signs_81 : decode cL_signs 81 = .ok (.iconst 0, 1) := by decide +kernel
theorem dL_signs_82 : decode cL_signs 82 = .ok (.iconst 2, 1) := by decide +kernel
theorem dL_signs_83 : decode cL_signs 83 = .ok (.iconst 0, 1) := by decide +kernel
theorem dL_signs_84 : decode cL_signs 84 = .ok (.iconst 0, 1) := by decide +kernel
theorem dL_signs_85 : decode cL_signs 85 = .ok (.bipush (-5), 2) := by decide +kernel
theorem dL_signs_87 : decode cL_signs 87 = .ok (.invokevirtual 20, 3) := by decide +kernel
theorem dL_signs_90 : decode cL_signs 90 = .ok (.iconst 2, 1) := by decide +kernel
theorem dL_signs_91 : decode cL_signs 91 = .ok (.if_icmp .ne 269, 3) := by decide +kernel
theorem dL_signs_94 : decode cL_signs 94 = .ok (.aload_n 0, 1) := by decide +kernel
theorem dL_signs_95 : decode cL_signs 95 = .ok (.iconst 0, 1) := by decide +kernel
theorem dL_signs_96 : decode cL_signs 96 = .ok (.iconst 4, 1) := by decide +kernel
theorem dL_signs_97 : decode cL_signs 97 = .ok (.iconst 0, 1) := by decide +kernel
theorem dL_signs_98 : decode cL_signs 98 = .ok (.iconst 0, 1) := by decide +kernel
theorem dL_signs_99 : decode cL_signs 99 = .ok (.bipush 9, 2) := by decide +kernel
theorem dL_signs_101 : decode cL_signs 101 = .ok (.invokevirtual 20, 3) := by decide +kernel
theorem dL_signs_104 : decode cL_signs 104 = .ok (.iconst 3, 1) := by decide +kernel
theorem dL_signs_105 : decode cL_signs 105 = .ok (.if_icmp .ne 255, 3) := by decide +kernel
theorem dL_signs_108 : decode cL_signs 108 = .ok (.aload_n 0, 1) := by decide +kernel
theorem dL_signs_109 : decode cL_signs 109 = .ok (.iconst 0, 1) := by decide +kernel
theorem dL_signs_110 : decode cL_signs 110 = .ok (.iconst 4, 1) := by decide +kernel
theorem dL_signs_111 : decode cL_signs 111 = .ok (.iconst 0, 1) := by decide +kernel
theorem dL_signs_112 : decode cL_signs 112 = .ok (.bipush 11, 2) := by decide +kernel
theorem dL_signs_114 : decode cL_signs 114 = .ok (.iconst 0, 1) := by decide +kernel
theorem dL_signs_115 : decode cL_signs 115 = .ok (.invokevirtual 20, 3) := by decide +kernel
theorem dL_signs_118 : decode cL_signs 118 = .ok (.iconst 4, 1) := by decide +kernel
theorem dL_signs_119 : decode cL_signs 119 = .ok (.if_icmp .ne 241, 3) := by decide +kernel
theorem dL_signs_122 : decode cL_signs 122 = .ok (.aload_n 0, 1) := by decide +kernel
theorem dL_signs_123 : decode cL_signs 123 = .ok (.iconst 3, 1) := by decide +kernel
theorem dL_signs_124 : decode cL_signs 124 = .ok (.invokevirtual 24, 3) := by decide +kernel
theorem dL_signs_127 : decode cL_signs 127 = .ok (.iconst 4, 1) := by decide +kernel
theorem dL_signs_128 : decode cL_signs 128 = .ok (.if_icmp .ne 232, 3) := by decide +kernel
theorem dL_signs_131 : decode cL_signs 131 = .ok (.aload_n 0, 1) := by decide +kernel
theorem dL_signs_132 : decode cL_signs 132 = .ok (.iconst 3, 1) := by decide +kernel
theorem dL_signs_133 : decode cL_signs 133 = .ok (.iconst 0, 1) := by decide +kernel
theorem dL_signs_134 : decode cL_signs 134 = .ok (.iconst 0, 1) := by decide +kernel
theorem dL_signs_135 : decode cL_signs 135 = .ok (.iconst 0, 1) := by decide +kernel
theorem dL_signs_136 : decode cL_signs 136 = .ok (.invokevirtual 41, 3) := by decide +kernel
theorem dL_signs_139 : decode cL_signs 139 = .ok (.bipush 9, 2) := by decide +kernel
theorem dL_signs_141 : decode cL_signs 141 = .ok (.if_icmp .ne 219, 3) := by decide +kernel
theorem dL_signs_144 : decode cL_signs 144 = .ok (.aload_n 0, 1) := by decide +kernel
theorem dL_signs_145 : decode cL_signs 145 = .ok (.iconst 0, 1) := by decide +kernel
theorem dL_signs_146 : decode cL_signs 146 = .ok (.iconst 0, 1) := by decide +kernel
theorem dL_signs_147 : decode cL_signs 147 = .ok (.iconst 0, 1) := by decide +kernel
theorem dL_signs_148 : decode cL_signs 148 = .ok (.iconst 0, 1) := by decide +kernel
theorem dL_signs_149 : decode cL_signs 149 = .ok (.invokevirtual 41, 3) := by decide +kernel
theorem dL_signs_152 : decode cL_signs 152 = .ok (.bipush 9, 2) := by decide +kernel
theorem dL_signs_154 : decode cL_signs 154 = .ok (.if_icmp .ne 206, 3) := by decide +kernel
theorem dL_signs_157 : decode cL_signs 157 = .ok (.aload_n 0, 1) := by decide +kernel
theorem dL_signs_158 : decode cL_signs 158 = .ok (.iconst 4, 1) := by decide +kernel
theorem dL_signs_159 : decode cL_signs 159 = .ok (.iconst 0, 1) := by decide +kernel
theorem dL_signs_160 : decode cL_signs 160 = .ok (.iconst 0, 1) := by decide +kernel
theorem dL_signs_161 : decode cL_signs 161 = .ok (.iconst 1, 1) := by decide +kernel
theorem dL_signs_162 : decode cL_signs 162 = .ok (.invokevirtual 30, 3) := by decide +kernel
theorem dL_signs_165 : decode cL_signs 165 = .ok (.iconst 3, 1) := by decide +kernel
theorem dL_signs_166 : decode cL_signs 166 = .ok (.if_icmp .ne 194, 3) := by decide +kernel
theorem dL_signs_169 : decode cL_signs 169 = .ok (.aload_n 0, 1) := by decide +kernel
theorem dL_signs_170 : decode cL_signs 170 = .ok (.iconst 4, 1) := by decide +kernel
theorem dL_signs_171 : decode cL_signs 171 = .ok (.iconst 0, 1) := by decide +kernel
theorem dL_signs_172 : decode cL_signs 172 = .ok (.iconst 0, 1) := by decide +kernel
theorem dL_signs_173 : decode cL_signs 173 = .ok (.invokevirtual 55, 3) := by decide +kernel
theorem dL_signs_176 : decode cL_signs 176 = .ok (.ldc 108, 2) := by decide +kernel
theorem dL_signs_178 : decode cL_signs 178 = .ok (.if_icmp .ne 182, 3) := by decide +kernel
theorem dL_signs_181 : decode cL_signs 181 = .ok (.aload_n 0, 1) := by decide +kernel
theorem dL_signs_182 : decode cL_signs 182 = .ok (.iconst 3, 1) := by decide +kernel
theorem dL_signs_183 : decode cL_signs 183 = .ok (.iconst 0, 1) := by decide +kernel
theorem dL_signs_184 : decode cL_signs 184 = .ok (.iconst 0, 1) := by decide +kernel
theorem dL_signs_185 : decode cL_signs 185 = .ok (.invokevirtual 55, 3) := by decide +kernel
theorem dL_signs_188 : decode cL_signs 188 = .ok (.ldc 108, 2) := by decide +kernel
theorem dL_signs_190 : decode cL_signs 190 = .ok (.if_icmp .ne 170, 3) := by decide +kernel
theorem dL_signs_193 : decode cL_signs 193 = .ok (.aload_n 0, 1) := by decide +kernel
theorem dL_signs_194 : decode cL_signs 194 = .ok (.iconst 1, 1) := by decide +kernel
theorem dL_signs_195 : decode cL_signs 195 = .ok (.iconst 0, 1) := by decide +kernel
theorem dL_signs_196 : decode cL_signs 196 = .ok (.iconst 0, 1) := by decide +kernel
theorem dL_signs_197 : decode cL_signs 197 = .ok (.invokevirtual 55, 3) := by decide +kernel
theorem dL_signs_200 : decode cL_signs 200 = .ok (.ldc 108, 2) := by decide +kernel
theorem dL_signs_202 : decode cL_signs 202 = .ok (.if_icmp .ne 158, 3) := by decide +kernel
theorem dL_signs_205 : decode cL_signs 205 = .ok (.aload_n 0, 1) := by decide +kernel
theorem dL_signs_206 : decode cL_signs 206 = .ok (.iconst 2, 1) := by decide +kernel
theorem dL_signs_207 : decode cL_signs 207 = .ok (.iconst 0, 1) := by decide +kernel
theorem dL_signs_208 : decode cL_signs 208 = .ok (.iconst 0, 1) := by decide +kernel
theorem dL_signs_209 : decode cL_signs 209 = .ok (.invokevirtual 55, 3) := by decide +kernel
theorem dL_signs_212 : decode cL_signs 212 = .ok (.bipush (-5), 2) := by decide +kernel
theorem dL_signs_214 : decode cL_signs 214 = .ok (.if_icmp .ne 146, 3) := by decide +kernel
theorem dL_signs_217 : decode cL_signs 217 = .ok (.aload_n 0, 1) := by decide +kernel
theorem dL_signs_218 : decode cL_signs 218 = .ok (.iconst 0, 1) := by decide +kernel
theorem dL_signs_219 : decode cL_signs 219 = .ok (.iconst 0, 1) := by decide +kernel
theorem dL_signs_220 : decode cL_signs 220 = .ok (.iconst 0, 1) := by decide +kernel
theorem dL_signs_221 : decode cL_signs 221 = .ok (.invokevirtual 55, 3) := by decide +kernel
theorem dL_signs_224 : decode cL_signs 224 = .ok (.bipush 9, 2) := by decide +kernel
theorem dL_signs_226 : decode cL_signs 226 = .ok (.if_icmp .ne 134, 3) := by decide +kernel
theorem dL_signs_229 : decode cL_signs 229 = .ok (.aload_n 0, 1) := by decide +kernel
theorem dL_signs_230 : decode cL_signs 230 = .ok (.iconst 0, 1) := by decide +kernel
theorem dL_signs_231 : decode cL_signs 231 = .ok (.iconst 0, 1) := by decide +kernel
theorem dL_signs_232 : decode cL_signs 232 = .ok (.iconst 0, 1) := by decide +kernel
theorem dL_signs_233 : decode cL_signs 233 = .ok (.iconst 1, 1) := by decide +kernel
theorem dL_signs_234 : decode cL_signs 234 = .ok (.invokevirtual 30, 3) := by decide +kernel
theorem dL_signs_237 : decode cL_signs 237 = .ok (.iconst 4, 1) := by decide +kernel
theorem dL_signs_238 : decode cL_signs 238 = .ok (.if_icmp .ne 122, 3) := by decide +kernel
theorem dL_signs_241 : decode cL_signs 241 = .ok (.aload_n 0, 1) := by decide +kernel
theorem dL_signs_242 : decode cL_signs 242 = .ok (.iconst 1, 1) := by decide +kernel
theorem dL_signs_243 : decode cL_signs 243 = .ok (.iconst 0, 1) := by decide +kernel
theorem dL_signs_244 : decode cL_signs 244 = .ok (.iconst 0, 1) := by decide +kernel
theorem dL_signs_245 : decode cL_signs 245 = .ok (.invokevirtual 55, 3) := by decide +kernel
theorem dL_signs_248 : decode cL_signs 248 = .ok (.ldc 108, 2) := by decide +kernel
theorem dL_signs_250 : decode cL_signs 250 = .ok (.if_icmp .ne 110, 3) := by decide +kernel
theorem dL_signs_253 : decode cL_signs 253 = .ok (.aload_n 0, 1) := by decide +kernel
theorem dL_signs_254 : decode cL_signs 254 = .ok (.iconst 2, 1) := by decide +kernel
theorem dL_signs_255 : decode cL_signs 255 = .ok (.iconst 0, 1) := by decide +kernel
theorem dL_signs_256 : decode cL_signs 256 = .ok (.iconst 0, 1) := by decide +kernel
theorem dL_signs_257 : decode cL_signs 257 = .ok (.invokevirtual 55, 3) := by decide +kernel
theorem dL_signs_260 : decode cL_signs 260 = .ok (.bipush (-5), 2) := by decide +kernel
theorem dL_signs_262 : decode cL_signs 262 = .ok (.if_icmp .ne 98, 3) := by decide +kernel
theorem dL_signs_265 : decode cL_signs 265 = .ok (.aload_n 0, 1) := by decide +kernel
theorem dL_signs_266 : decode cL_signs 266 = .ok (.iconst 0, 1) := by decide +kernel
theorem dL_signs_267 : decode cL_signs 267 = .ok (.iconst 0, 1) := by decide +kernel
theorem dL_signs_268 : decode cL_signs 268 = .ok (.iconst 0, 1) := by decide +kernel
theorem dL_signs_269 : decode cL_signs 269 = .ok (.invokevirtual 55, 3) := by decide +kernel
theorem dL_signs_272 : decode cL_signs 272 = .ok (.ldc 108, 2) := by decide +kernel
theorem dL_signs_274 : decode cL_signs 274 = .ok (.if_icmp .ne 86, 3) := by decide +kernel
theorem dL_signs_277 : decode cL_signs 277 = .ok (.aload_n 0, 1) := by decide +kernel
theorem dL_signs_278 : decode cL_signs 278 = .ok (.iconst 4, 1) := by decide +kernel
theorem dL_signs_279 : decode cL_signs 279 = .ok (.iconst 0, 1) := by decide +kernel
theorem dL_signs_280 : decode cL_signs 280 = .ok (.iconst 0, 1) := by decide +kernel
theorem dL_signs_281 : decode cL_signs 281 = .ok (.iconst 0, 1) := by decide +kernel
theorem dL_signs_282 : decode cL_signs 282 = .ok (.invokevirtual 30, 3) := by decide +kernel
theorem dL_signs_285 : decode cL_signs 285 = .ok (.iconst 2, 1) := by decide +kernel
theorem dL_signs_286 : decode cL_signs 286 = .ok (.if_icmp .ne 74, 3) := by decide +kernel
theorem dL_signs_289 : decode cL_signs 289 = .ok (.aload_n 0, 1) := by decide +kernel
theorem dL_signs_290 : decode cL_signs 290 = .ok (.iconst 1, 1) := by decide +kernel
theorem dL_signs_291 : decode cL_signs 291 = .ok (.iconst 0, 1) := by decide +kernel
theorem dL_signs_292 : decode cL_signs 292 = .ok (.iconst 0, 1) := by decide +kernel
theorem dL_signs_293 : decode cL_signs 293 = .ok (.invokevirtual 55, 3) := by decide +kernel
theorem dL_signs_296 : decode cL_signs 296 = .ok (.ldc 108, 2) := by decide +kernel
theorem dL_signs_298 : decode cL_signs 298 = .ok (.if_icmp .ne 62, 3) := by decide +kernel
theorem dL_signs_301 : decode cL_signs 301 = .ok (.aload_n 0, 1) := by decide +kernel
theorem dL_signs_302 : decode cL_signs 302 = .ok (.iconst 2, 1) := by decide +kernel
theorem dL_signs_303 : decode cL_signs 303 = .ok (.iconst 0, 1) := by decide +kernel
theorem dL_signs_304 : decode cL_signs 304 = .ok (.iconst 0, 1) := by decide +kernel
theorem dL_signs_305 : decode cL_signs 305 = .ok (.invokevirtual 55, 3) := by decide +kernel
theorem dL_signs_308 : decode cL_signs 308 = .ok (.bipush (-5), 2) := by decide +kernel
theorem dL_signs_310 : decode cL_signs 310 = .ok (.if_icmp .ne 50, 3) := by decide +kernel
theorem dL_signs_313 : decode cL_signs 313 = .ok (.aload_n 0, 1) := by decide +kernel
theorem dL_signs_314 : decode cL_signs 314 = .ok (.iconst 3, 1) := by decide +kernel
theorem dL_signs_315 : decode cL_signs 315 = .ok (.iconst 0, 1) := by decide +kernel
theorem dL_signs_316 : decode cL_signs 316 = .ok (.iconst 0, 1) := by decide +kernel
theorem dL_signs_317 : decode cL_signs 317 = .ok (.invokevirtual 55, 3) := by decide +kernel
theorem dL_signs_320 : decode cL_signs 320 = .ok (.bipush 9, 2) := by decide +kernel
theorem dL_signs_322 : decode cL_signs 322 = .ok (.if_icmp .ne 38, 3) := by decide +kernel
theorem dL_signs_325 : decode cL_signs 325 = .ok (.aload_n 0, 1) := by decide +kernel
theorem dL_signs_326 : decode cL_signs 326 = .ok (.bipush 11, 2) := by decide +kernel
theorem dL_signs_328 : decode cL_signs 328 = .ok (.invokevirtual 58, 3) := by decide +kernel
theorem dL_signs_331 : decode cL_signs 331 = .ok (.ifCond .ne 29, 3) := by decide +kernel
theorem dL_signs_334 : decode cL_signs 334 = .ok (.aload_n 0, 1) := by decide +kernel
theorem dL_signs_335 : decode cL_signs 335 = .ok (.iconst 3, 1) := by decide +kernel
theorem dL_signs_336 : decode cL_signs 336 = .ok (.iconst 0, 1) := by decide +kernel
theorem dL_signs_337 : decode cL_signs 337 = .ok (.bipush 11, 2) := by decide +kernel
theorem dL_signs_339 : decode cL_signs 339 = .ok (.iconst 1, 1) := by decide +kernel
theorem dL_signs_340 : decode cL_signs 340 = .ok (.invokevirtual 30, 3) := by decide +kernel
theorem dL_signs_343 : decode cL_signs 343 = .ok (.iconst 2, 1) := by decide +kernel
theorem dL_signs_344 : decode cL_signs 344 = .ok (.if_icmp .ne 16, 3) := by decide +kernel
theorem dL_signs_347 : decode cL_signs 347 = .ok (.aload_n 0, 1) := by decide +kernel
theorem dL_signs_348 : decode cL_signs 348 = .ok (.iconst 4, 1) := by decide +kernel
theorem dL_signs_349 : decode cL_signs 349 = .ok (.iconst 0, 1) := by decide +kernel
theorem dL_signs_350 : decode cL_signs 350 = .ok (.bipush 11, 2) := by decide +kernel
theorem dL_signs_352 : decode cL_signs 352 = .ok (.invokevirtual 55, 3) := by decide +kernel
theorem dL_signs_355 : decode cL_signs 355 = .ok (.ldc 108, 2) := by decide +kernel
theorem dL_signs_357 : decode cL_signs 357 = .ok (.if_icmp .eq 5, 3) := by decide +kernel
theorem dL_signs_360 : decode cL_signs 360 = .ok (.iconst 0, 1) := by decide +kernel
theorem dL_signs_361 : decode cL_signs 361 = .ok (.ireturn, 1) := by decide +kernel
theorem dL_signs_362 : decode cL_signs 362 = .ok (.aload_n 0, 1) := by decide +kernel
theorem dL_signs_363 : decode cL_signs 363 = .ok (.iconst 0, 1) := by decide +kernel
theorem dL_signs_364 : decode cL_signs 364 = .ok (.iconst 3, 1) := by decide +kernel
theorem dL_signs_365 : decode cL_signs 365 = .ok (.iconst 0, 1) := by decide +kernel
theorem dL_signs_366 : decode cL_signs 366 = .ok (.iconst 0, 1) := by decide +kernel
theorem dL_signs_367 : decode cL_signs 367 = .ok (.bipush 8, 2) := by decide +kernel
theorem dL_signs_369 : decode cL_signs 369 = .ok (.invokevirtual 20, 3) := by decide +kernel
theorem dL_signs_372 : decode cL_signs 372 = .ok (.iconst 1, 1) := by decide +kernel
theorem dL_signs_373 : decode cL_signs 373 = .ok (.if_icmp .ne 173, 3) := by decide +kernel
theorem dL_signs_376 : decode cL_signs 376 = .ok (.aload_n 0, 1) := by decide +kernel
theorem dL_signs_377 : decode cL_signs 377 = .ok (.iconst 1, 1) := by decide +kernel
theorem dL_signs_378 : decode cL_signs 378 = .ok (.iconst 2, 1) := by decide +kernel
theorem dL_signs_379 : decode cL_signs 379 = .ok (.iconst 0, 1) := by decide +kernel
theorem dL_signs_380 : decode cL_signs 380 = .ok (.iconst 0, 1) := by decide +kernel
theorem dL_signs_381 : decode cL_signs 381 = .ok (.bipush (-8), 2) := by decide +kernel
theorem dL_signs_383 : decode cL_signs 383 = .ok (.invokevirtual 20, 3) := by decide +kernel
theorem dL_signs_386 : decode cL_signs 386 = .ok (.iconst 2, 1) := by decide +kernel
theorem dL_signs_387 : decode cL_signs 387 = .ok (.if_icmp .ne 159, 3) := by decide +kernel
theorem dL_signs_390 : decode cL_signs 390 = .ok (.aload_n 0, 1) := by decide +kernel
theorem dL_signs_391 : decode cL_signs 391 = .ok (.iconst 3, 1) := by decide +kernel
theorem dL_signs_392 : decode cL_signs 392 = .ok (.invokevirtual 24, 3) := by decide +kernel
theorem dL_signs_395 : decode cL_signs 395 = .ok (.iconst 2, 1) := by decide +kernel
theorem dL_signs_396 : decode cL_signs 396 = .ok (.if_icmp .ne 150, 3) := by decide +kernel
theorem dL_signs_399 : decode cL_signs 399 = .ok (.aload_n 0, 1) := by decide +kernel
theorem dL_signs_400 : decode cL_signs 400 = .ok (.iconst 3, 1) := by decide +kernel
theorem dL_signs_401 : decode cL_signs 401 = .ok (.iconst 0, 1) := by decide +kernel
theorem dL_signs_402 : decode cL_signs 402 = .ok (.iconst 0, 1) := by decide +kernel
theorem dL_signs_403 : decode cL_signs 403 = .ok (.invokevirtual 51, 3) := by decide +kernel
theorem dL_signs_406 : decode cL_signs 406 = .ok (.ifCond .eq 140, 3) := by decide +kernel
theorem dL_signs_409 : decode cL_signs 409 = .ok (.aload_n 0, 1) := by decide +kernel
theorem dL_signs_410 : decode cL_signs 410 = .ok (.iconst 0, 1) := by decide +kernel
theorem dL_signs_411 : decode cL_signs 411 = .ok (.iconst 0, 1) := by decide +kernel
theorem dL_signs_412 : decode cL_signs 412 = .ok (.iconst 0, 1) := by decide +kernel
theorem dL_signs_413 : decode cL_signs 413 = .ok (.invokevirtual 51, 3) := by decide +kernel
theorem dL_signs_416 : decode cL_signs 416 = .ok (.ifCond .ne 130, 3) := by decide +kernel
theorem dL_signs_419 : decode cL_signs 419 = .ok (.aload_n 0, 1) := by decide +kernel
theorem dL_signs_420 : decode cL_signs 420 = .ok (.iconst 0, 1) := by decide +kernel
theorem dL_signs_421 : decode cL_signs 421 = .ok (.iconst 0, 1) := by decide +kernel
theorem dL_signs_422 : decode cL_signs 422 = .ok (.iconst 0, 1) := by decide +kernel
theorem dL_signs_423 : decode cL_signs 423 = .ok (.iconst 0, 1) := by decide +kernel
theorem dL_signs_424 : decode cL_signs 424 = .ok (.invokevirtual 41, 3) := by decide +kernel
theorem dL_signs_427 : decode cL_signs 427 = .ok (.iconst 5, 1) := by decide +kernel
theorem dL_signs_428 : decode cL_signs 428 = .ok (.if_icmp .ne 118, 3) := by decide +kernel
theorem dL_signs_431 : decode cL_signs 431 = .ok (.aload_n 0, 1) := by decide +kernel
theorem dL_signs_432 : decode cL_signs 432 = .ok (.iconst 0, 1) := by decide +kernel
theorem dL_signs_433 : decode cL_signs 433 = .ok (.iconst 0, 1) := by decide +kernel
theorem dL_signs_434 : decode cL_signs 434 = .ok (.iconst 0, 1) := by decide +kernel
theorem dL_signs_435 : decode cL_signs 435 = .ok (.iconst 0, 1) := by decide +kernel
theorem dL_signs_436 : decode cL_signs 436 = .ok (.iconst 5, 1) := by decide +kernel
theorem dL_signs_437 : decode cL_signs 437 = .ok (.invokevirtual 20, 3) := by decide +kernel
theorem dL_signs_440 : decode cL_signs 440 = .ok (.iconst 1, 1) := by decide +kernel
theorem dL_signs_441 : decode cL_signs 441 = .ok (.if_icmp .ne 105, 3) := by decide +kernel
theorem dL_signs_444 : decode cL_signs 444 = .ok (.aload_n 0, 1) := by decide +kernel
theorem dL_signs_445 : decode cL_signs 445 = .ok (.iconst 3, 1) := by decide +kernel
theorem dL_signs_446 : decode cL_signs 446 = .ok (.invokevirtual 24, 3) := by decide +kernel
theorem dL_signs_449 : decode cL_signs 449 = .ok (.iconst 1, 1) := by decide +kernel
theorem dL_signs_450 : decode cL_signs 450 = .ok (.if_icmp .ne 96, 3) := by decide +kernel
theorem dL_signs_453 : decode cL_signs 453 = .ok (.aload_n 0, 1) := by decide +kernel
theorem dL_signs_454 : decode cL_signs 454 = .ok (.iconst 0, 1) := by decide +kernel
theorem dL_signs_455 : decode cL_signs 455 = .ok (.iconst 0, 1) := by decide +kernel
theorem dL_signs_456 : decode cL_signs 456 = .ok (.iconst 0, 1) := by decide +kernel
theorem dL_signs_457 : decode cL_signs 457 = .ok (.invokevirtual 51, 3) := by decide +kernel
theorem dL_signs_460 : decode cL_signs 460 = .ok (.ifCond .ne 86, 3) := by decide +kernel
theorem dL_signs_463 : decode cL_signs 463 = .ok (.aload_n 0, 1) := by decide +kernel
theorem dL_signs_464 : decode cL_signs 464 = .ok (.iconst 1, 1) := by decide +kernel
theorem dL_signs_465 : decode cL_signs 465 = .ok (.iconst 0, 1) := by decide +kernel
theorem dL_signs_466 : decode cL_signs 466 = .ok (.iconst 0, 1) := by decide +kernel
theorem dL_signs_467 : decode cL_signs 467 = .ok (.iconst 0, 1) := by decide +kernel
theorem dL_signs_468 : decode cL_signs 468 = .ok (.bipush 6, 2) := by decide +kernel
theorem dL_signs_470 : decode cL_signs 470 = .ok (.invokevirtual 20, 3) := by decide +kernel
theorem dL_signs_473 : decode cL_signs 473 = .ok (.iconst 1, 1) := by decide +kernel
theorem dL_signs_474 : decode cL_signs 474 = .ok (.if_icmp .ne 72, 3) := by decide +kernel
theorem dL_signs_477 : decode cL_signs 477 = .ok (.aload_n 0, 1) := by decide +kernel
theorem dL_signs_478 : decode cL_signs 478 = .ok (.iconst 3, 1) := by decide +kernel
theorem dL_signs_479 : decode cL_signs 479 = .ok (.invokevirtual 24, 3) := by decide +kernel
theorem dL_signs_482 : decode cL_signs 482 = .ok (.iconst 1, 1) := by decide +kernel
theorem dL_signs_483 : decode cL_signs 483 = .ok (.if_icmp .ne 63, 3) := by decide +kernel
theorem dL_signs_486 : decode cL_signs 486 = .ok (.aload_n 0, 1) := by decide +kernel
theorem dL_signs_487 : decode cL_signs 487 = .ok (.iconst 0, 1) := by decide +kernel
theorem dL_signs_488 : decode cL_signs 488 = .ok (.iconst 0, 1) := by decide +kernel
theorem dL_signs_489 : decode cL_signs 489 = .ok (.iconst 0, 1) := by decide +kernel
theorem dL_signs_490 : decode cL_signs 490 = .ok (.invokevirtual 51, 3) := by decide +kernel
theorem dL_signs_493 : decode cL_signs 493 = .ok (.ifCond .eq 53, 3) := by decide +kernel
theorem dL_signs_496 : decode cL_signs 496 = .ok (.aload_n 0, 1) := by decide +kernel
theorem dL_signs_497 : decode cL_signs 497 = .ok (.iconst 0, 1) := by decide +kernel
theorem dL_signs_498 : decode cL_signs 498 = .ok (.iconst 0, 1) := by decide +kernel
theorem dL_signs_499 : decode cL_signs 499 = .ok (.iconst 0, 1) := by decide +kernel
theorem dL_signs_500 : decode cL_signs 500 = .ok (.invokevirtual 55, 3) := by decide +kernel
theorem dL_signs_503 : decode cL_signs 503 = .ok (.ldc 108, 2) := by decide +kernel
theorem dL_signs_505 : decode cL_signs 505 = .ok (.if_icmp .ne 41, 3) := by decide +kernel
theorem dL_signs_508 : decode cL_signs 508 = .ok (.aload_n 0, 1) := by decide +kernel
theorem dL_signs_509 : decode cL_signs 509 = .ok (.iconst 1, 1) := by decide +kernel
theorem dL_signs_510 : decode cL_signs 510 = .ok (.iconst 0, 1) := by decide +kernel
theorem dL_signs_511 : decode cL_signs 511 = .ok (.iconst 0, 1) := by decide +kernel
theorem dL_signs_512 : decode cL_signs 512 = .ok (.invokevirtual 55, 3) := by decide +kernel
theorem dL_signs_515 : decode cL_signs 515 = .ok (.ldc 108, 2) := by decide +kernel
theorem dL_signs_517 : decode cL_signs 517 = .ok (.if_icmp .ne 29, 3) := by decide +kernel
theorem dL_signs_520 : decode cL_signs 520 = .ok (.aload_n 0, 1) := by decide +kernel
theorem dL_signs_521 : decode cL_signs 521 = .ok (.iconst 2, 1) := by decide +kernel
theorem dL_signs_522 : decode cL_signs 522 = .ok (.iconst 0, 1) := by decide +kernel
theorem dL_signs_523 : decode cL_signs 523 = .ok (.iconst 0, 1) := by decide +kernel
theorem dL_signs_524 : decode cL_signs 524 = .ok (.invokevirtual 55, 3) := by decide +kernel
theorem dL_signs_527 : decode cL_signs 527 = .ok (.bipush (-8), 2) := by decide +kernel
theorem dL_signs_529 : decode cL_signs 529 = .ok (.if_icmp .ne 17, 3) := by decide +kernel
theorem dL_signs_532 : decode cL_signs 532 = .ok (.aload_n 0, 1) := by decide +kernel
theorem dL_signs_533 : decode cL_signs 533 = .ok (.iconst 5, 1) := by decide +kernel
theorem dL_signs_534 : decode cL_signs 534 = .ok (.iconst 1, 1) := by decide +kernel
theorem dL_signs_535 : decode cL_signs 535 = .ok (.iconst 0, 1) := by decide +kernel
theorem dL_signs_536 : decode cL_signs 536 = .ok (.invokestatic 87, 3) := by decide +kernel
theorem dL_signs_539 : decode cL_signs 539 = .ok (.ifCond .eq 7, 3) := by decide +kernel
theorem dL_signs_542 : decode cL_signs 542 = .ok (.iconst 1, 1) := by decide +kernel
theorem dL_signs_543 : decode cL_signs 543 = .ok (.goto 4, 3) := by decide +kernel
theorem dL_signs_546 : decode cL_signs 546 = .ok (.iconst 0, 1) := by decide +kernel
theorem dL_signs_547 : decode cL_signs 547 = .ok (.ireturn, 1) := by decide +kernel
set_option maxRecDepth 20000 in
theorem ggL_most_X5_init : GoodIn wsL_most wsX5_init := goodIn_r _ [7, 8, 9, 10, 11, 12, 13, 14, 15, 16, 17, 18, 19, 20, 21, 22, 23, 24, 25, 26, 27, 28, 29, 30, 31, 32, 33, 34, 35, 36, 37, 38, 39, 40, 41, 42, 43, 44, 45, 46, 47, 48, 49, 50, 51, 52, 53, 54, 55, 56, 57, 58, 59, 60, 61, 62, 63, 64, 65, 66, 67, 68, 69, 70, 71, 72, 73, 353, 354, 355, 342, 343, 344, 345, 346, 347, 348, 349, 350, 351, 352, 356, 357, 358, 359, 360, 361, 362, 363, 364, 365, 366, 367, 368, 369, 370, 371] (by decide +kernel) (by decide +kernel)
set_option maxRecDepth 20000 in
theorem gL_most_X5_init : GoodIn wsL_most (wsX5_init) := ggL_most_X5_init
set_option maxRecDepth 20000 in
theorem ggL_most_L_act : GoodIn wsL_most wsL_act := goodIn_ca (goodIn_ca (goodIn_ca (goodIn_r _ [77, 78, 79, 80, 81, 82, 83, 3, 84, 14, 85, 86, 87, 88, 89, 90, 91, 92, 13, 93, 94, 95, 96, 97, 98, 99, 100, 101, 102, 103, 40, 104, 105, 106, 107, 108, 109, 110, 111, 15, 112, 113, 114, 115, 19, 116, 117, 118, 119, 120, 121, 122, 123, 124, 125, 18, 126, 45, 127, 128, 129, 130, 131, 132, 133, 134, 23, 135, 136, 137, 138, 139, 140, 141, 142, 143, 144, 145, 146, 147, 148, 149, 150, 22, 151, 152, 153, 154, 155, 156, 49, 50, 51, 52, 157, 158, 159, 160, 161, 162, 163, 164, 165, 35, 27, 166, 167, 168, 169, 170, 171, 172, 173, 174, 175, 176, 177, 178, 179, 180, 181, 182, 183, 184, 185, 186, 187, 188, 189, 26, 190, 191, 61, 62, 63, 59, 58, 57, 60, 192, 193, 194, 195, 196, 197, 198, 199, 200, 201, 202, 203, 33, 31, 204, 205, 206, 207, 208, 209, 210, 30, 211, 72, 212, 213, 214, 215, 216, 217, 66, 67, 68, 218, 219, 220, 221, 222, 223, 224, 225, 226, 227, 228, 229, 230, 231, 232, 233, 234, 235, 236, 73, 237, 238, 239, 240, 241, 242, 243, 244, 245, 246, 247, 248, 249, 250, 251, 252, 253, 254, 255, 256, 257, 258, 259, 260, 261, 262, 263, 264, 265, 266, 267, 268, 269, 270, 271, 272, 273, 274, 275, 276, 277, 278, 279, 280, 64, 281, 282, 283, 284, 285, 286, 287, 288, 289, 290, 291, 292, 293, 294, 295, 296, 297, 298, 299, 300, 301, 302, 303, 304, 305, 306, 307, 308, 309, 310, 311, 312, 313, 314, 315, 342, 343, 344, 345, 346, 347, 348, 349, 350, 351, 352, 353, 354, 355, 356, 357, 358, 359, 360, 361, 362, 363, 364, 365, 366, 367, 368, 369, 370, 371] rfl (by decide +kernel)) (goodIn_sub (fun _ h => List.mem_cons_of_mem _ (List.mem_append_left _ (List.mem_append_left _ (List.mem_append_right _ h)))) (by decide +kernel))) (goodIn_sub (fun _ h => List.mem_cons_of_mem _ (List.mem_append_left _ (List.mem_append_right _ h))) (by decide +kernel))) (goodIn_sub (fun _ h => List.mem_cons_of_mem _ (List.mem_append_right _ h)) (by decide +kernel))
set_option maxRecDepth 20000 in
theorem gL_most_L_act : GoodIn wsL_most (va_wsS RL 81 yL_act wsL_act) := goodIn_app (goodIn_of _ (by decide +kernel)) ggL_most_L_act
set_option maxRecDepth 20000 in
theorem ggL_most_X5_agree : GoodIn wsL_most wsX5_agree := goodIn_ca (goodIn_r _ [115, 19, 116, 117, 3, 118, 88, 89, 119, 120, 121, 122, 14, 90, 91, 92, 13, 93, 94, 123, 124, 125, 18, 126, 45, 342, 343, 344, 345, 346, 347, 348, 349, 350, 351, 352, 353, 354, 355, 356] (by decide +kernel) (by decide +kernel)) (goodIn_sub (fun _ h => List.mem_cons_of_mem _ (List.mem_append_left _ (List.mem_append_left _ (List.mem_append_right _ h)))) (by decide +kernel))
set_option maxRecDepth 20000 in
theorem gL_most_X5_agree : GoodIn wsL_most (wsV RL 16 RX5 yX5_agree wsX5_agree) := goodIn_app (goodIn_of _ (by decide +kernel)) ggL_most_X5_agree
set_option maxRecDepth 20000 in
theorem ggL_most_X5_mayTell : GoodIn wsL_most wsX5_mayTell := goodIn_ca (goodIn_r _ [315, 19, 14, 116, 117, 3, 118, 88, 89, 119, 120, 121, 122, 90, 91, 92, 13, 93, 94, 173, 174, 175, 18, 176, 45, 177, 178, 179, 180, 40, 181, 342, 343, 344, 345, 346, 347, 348, 349, 350, 351, 352, 353, 354, 355, 356] (by decide +kernel) (by decide +kernel)) (goodIn_sub (fun _ h => List.mem_cons_of_mem _ (List.mem_append_left _ (List.mem_append_left _ (List.mem_append_right _ h)))) (by decide +kernel))
set_option maxRecDepth 20000 in
theorem gL_most_X5_mayTell : GoodIn wsL_most (wsV RL 61 RX5 yX5_mayTell wsX5_mayTell) := goodIn_app (goodIn_of _ (by decide +kernel)) ggL_most_X5_mayTell
set_option maxRecDepth 20000 in
theorem ggL_most_X5_send : GoodIn wsL_most wsX5_send := goodIn_ca (goodIn_ca (goodIn_r _ [160, 98, 99, 23, 161, 116, 117, 3, 118, 88, 89, 162, 163, 164, 165, 35, 27, 166, 167, 168, 169, 170, 171, 19, 14, 172, 173, 174, 175, 18, 176, 45, 177, 178, 179, 13, 180, 94, 40, 181, 91, 92, 93, 182, 183, 184, 22, 185, 49, 186, 52, 187, 188, 189, 26, 190, 191, 61, 62, 63, 59, 58, 57, 60, 192, 193, 194, 195, 152, 342, 343, 344, 345, 346, 347, 348, 349, 350, 351, 352, 357, 358, 359, 360, 361, 362, 363, 364, 365, 366, 367, 368, 369, 353, 354, 355, 356] (by decide +kernel) (by decide +kernel)) (goodIn_sub (fun _ h => List.mem_cons_of_mem _ (List.mem_append_left _ (List.mem_append_right _ h))) (by decide +kernel))) (goodIn_sub (fun _ h => List.mem_cons_of_mem _ (List.mem_append_left _ (List.mem_append_left _ (List.mem_append_right _ h)))) (by decide +kernel))
set_option maxRecDepth 20000 in
theorem gL_most_X5_send : GoodIn wsL_most (wsV RL 24 RX5 yX5_send wsX5_send) := goodIn_app (goodIn_of _ (by decide +kernel)) ggL_most_X5_send
set_option maxRecDepth 20000 in
theorem ggL_most_X5_put : GoodIn wsL_most wsX5_put := goodIn_ca (goodIn_ca (goodIn_ca (goodIn_r _ [130, 131, 132, 98, 99, 133, 134, 23, 135, 136, 137, 3, 138, 88, 89, 14, 15, 90, 91, 92, 13, 93, 94, 139, 140, 141, 142, 143, 144, 145, 146, 147, 148, 149, 150, 22, 151, 152, 153, 154, 155, 156, 49, 50, 51, 52, 342, 343, 344, 345, 346, 347, 348, 349, 350, 351, 352, 353, 354, 355, 357, 358, 359, 360, 361] (by decide +kernel) (by decide +kernel)) (goodIn_sub (fun _ h => List.mem_cons_of_mem _ (List.mem_append_right _ h)) (by decide +kernel))) (goodIn_sub (fun _ h => List.mem_cons_of_mem _ (List.mem_append_left _ (List.mem_append_right _ h))) (by decide +kernel))) (goodIn_sub (fun _ h => List.mem_cons_of_mem _ (List.mem_append_left _ (List.mem_append_left _ (List.mem_append_right _ h)))) (by decide +kernel))
set_option maxRecDepth 20000 in
theorem gL_most_X5_put : GoodIn wsL_most (wsV RL 20 RX5 yX5_put wsX5_put) := goodIn_app (goodIn_of _ (by decide +kernel)) ggL_most_X5_put
set_option maxRecDepth 20000 in
theorem ggL_most_X5_wipe : GoodIn wsL_most wsX5_wipe := goodIn_r _ [319, 23, 192, 193, 194, 22, 195, 152, 342, 343, 344, 345, 346, 347, 348, 349, 350, 351, 352, 357, 358, 359, 360, 361] (by decide +kernel) (by decide +kernel)
set_option maxRecDepth 20000 in
theorem gL_most_X5_wipe : GoodIn wsL_most (wsV RL 91 RX5 yX5_wipe wsX5_wipe) := goodIn_app (goodIn_of _ (by decide +kernel)) ggL_most_X5_wipe
set_option maxRecDepth 20000 in
theorem ggL_most_X5_value : GoodIn wsL_most wsX5_value := goodIn_ca (goodIn_ca (goodIn_r _ [284, 31, 27, 14, 15, 135, 136, 137, 3, 138, 88, 89, 90, 91, 92, 13, 93, 94, 139, 140, 141, 142, 143, 144, 145, 146, 147, 273, 274, 275, 276, 131, 132, 166, 208, 209, 210, 30, 211, 72, 212, 213, 214, 215, 216, 217, 66, 67, 68, 218, 219, 220, 221, 222, 223, 224, 225, 40, 226, 227, 228, 229, 230, 231, 232, 285, 342, 343, 344, 345, 346, 347, 348, 349, 350, 351, 352, 353, 354, 355, 370, 371, 362, 363, 364, 365, 366, 367, 368, 369] (by decide +kernel) (by decide +kernel)) (goodIn_sub (fun _ h => List.mem_cons_of_mem _ (List.mem_append_left _ (List.mem_append_left _ (List.mem_append_right _ h)))) (by decide +kernel))) (goodIn_sub (fun _ h => List.mem_cons_of_mem _ (List.mem_append_right _ h)) (by decide +kernel))
set_option maxRecDepth 20000 in
theorem gL_most_X5_value : GoodIn wsL_most (wsV RL 41 RX5 yX5_value wsX5_value) := goodIn_app (goodIn_of _ (by decide +kernel)) ggL_most_X5_value
set_option maxRecDepth 20000 in
theorem ggL_most_X5_secret : GoodIn wsL_most wsX5_secret := goodIn_ca (goodIn_r _ [203, 33, 31, 135, 136, 137, 3, 138, 88, 89, 14, 15, 90, 91, 92, 13, 93, 94, 139, 140, 141, 142, 143, 144, 145, 146, 147, 204, 205, 206, 207, 27, 166, 208, 209, 210, 30, 211, 72, 212, 213, 214, 215, 216, 217, 66, 67, 68, 218, 219, 220, 221, 222, 223, 224, 225, 40, 226, 227, 228, 229, 230, 231, 232, 233, 234, 235, 236, 73, 237, 238, 239, 240, 241, 242, 243, 244, 245, 246, 247, 248, 249, 250, 251, 252, 253, 254, 255, 256, 257, 258, 259, 260, 261, 262, 263, 264, 342, 343, 344, 345, 346, 347, 348, 349, 350, 351, 352, 353, 354, 355, 370, 371, 362, 363, 364, 365, 366, 367, 368, 369] (by decide +kernel) (by decide +kernel)) (goodIn_sub (fun _ h => List.mem_cons_of_mem _ (List.mem_append_left _ (List.mem_append_left _ (List.mem_append_right _ h)))) (by decide +kernel))
set_option maxRecDepth 20000 in
theorem gL_most_X5_secret : GoodIn wsL_most (wsV RL 30 RX5 yX5_secret wsX5_secret) := goodIn_app (goodIn_of _ (by decide +kernel)) ggL_most_X5_secret
set_option maxRecDepth 20000 in
theorem ggL_most_X5_hidden : GoodIn wsL_most wsX5_hidden := goodIn_ca (goodIn_r _ [311, 88, 89, 31, 139, 140, 3, 141, 204, 205, 206, 207, 27, 166, 14, 15, 33, 208, 209, 210, 30, 211, 72, 212, 213, 214, 215, 216, 217, 66, 67, 68, 146, 147, 218, 219, 220, 221, 222, 223, 224, 13, 225, 94, 40, 226, 227, 228, 229, 230, 231, 232, 233, 234, 235, 236, 73, 237, 238, 239, 240, 241, 242, 243, 244, 245, 246, 247, 248, 249, 250, 251, 252, 253, 254, 255, 256, 257, 258, 259, 260, 261, 262, 263, 264, 342, 343, 344, 345, 346, 347, 348, 349, 350, 351, 352, 353, 354, 355, 370, 371, 362, 363, 364, 365, 366, 367, 368, 369] (by decide +kernel) (by decide +kernel)) (goodIn_sub (fun _ h => List.mem_cons_of_mem _ (List.mem_append_left _ (List.mem_append_left _ (List.mem_append_right _ h)))) (by decide +kernel))
set_option maxRecDepth 20000 in
theorem gL_most_X5_hidden : GoodIn wsL_most (wsV RL 58 RX5 yX5_hidden wsX5_hidden) := goodIn_app (goodIn_of _ (by decide +kernel)) ggL_most_X5_hidden
set_option maxRecDepth 20000 in
theorem ggL_most_X5_pass : GoodIn wsL_most wsX5_pass := goodIn_ca (goodIn_ca (goodIn_r _ [268, 131, 132, 98, 99, 166, 342, 343, 344, 345, 346, 347, 348, 349, 350, 351, 352] (by decide +kernel) (by decide +kernel)) (goodIn_sub (fun _ h => List.mem_cons_of_mem _ (List.mem_append_right _ h)) (by decide +kernel))) (goodIn_sub (fun _ h => List.mem_cons_of_mem _ (List.mem_append_left _ (List.mem_append_right _ h))) (by decide +kernel))
set_option maxRecDepth 20000 in
theorem gL_most_X5_pass : GoodIn wsL_most (wsV RL 34 RX5 yX5_pass wsX5_pass) := goodIn_app (goodIn_of _ (by decide +kernel)) ggL_most_X5_pass
set_option maxRecDepth 20000 in
theorem ggL_most_L_find : GoodIn wsL_most wsL_find := goodIn_ca (goodIn_ca (goodIn_r _ [322, 78, 79, 323, 324, 325, 3, 326, 88, 89, 131, 132, 14, 15, 85, 86, 87, 90, 91, 92, 13, 93, 94, 139, 140, 141, 327, 328, 329, 330, 27, 142, 143, 144, 145, 146, 147, 331, 332, 333, 26, 334, 57, 64, 60, 335, 178, 179, 180, 40, 181, 342, 343, 344, 345, 346, 347, 348, 349, 350, 351, 352, 353, 354, 355, 362, 363, 364, 365, 366, 367, 368, 369] (by decide +kernel) (by decide +kernel)) (goodIn_sub (fun _ h => List.mem_cons_of_mem _ (List.mem_append_left _ (List.mem_append_left _ (List.mem_append_right _ h)))) (by decide +kernel))) (goodIn_sub (fun _ h => List.mem_cons_of_mem _ (List.mem_append_right _ h)) (by decide +kernel))
set_option maxRecDepth 20000 in
theorem gL_most_L_find : GoodIn wsL_most (va_wsS RL 76 yL_find wsL_find) := goodIn_app (goodIn_of _ (by decide +kernel)) ggL_most_L_find
set_option maxRecDepth 20000 in
theorem ggL_most_X5_revisions : GoodIn wsL_most wsX5_revisions := goodIn_ca (goodIn_r _ [293, 27, 135, 136, 137, 3, 138, 88, 89, 14, 15, 90, 91, 92, 13, 93, 94, 139, 140, 141, 142, 143, 144, 145, 146, 147, 342, 343, 344, 345, 346, 347, 348, 349, 350, 351, 352, 362, 363, 364, 365, 366, 367, 368, 369, 353, 354, 355] (by decide +kernel) (by decide +kernel)) (goodIn_sub (fun _ h => List.mem_cons_of_mem _ (List.mem_append_left _ (List.mem_append_left _ (List.mem_append_right _ h)))) (by decide +kernel))
set_option maxRecDepth 20000 in
theorem gL_most_X5_revisions : GoodIn wsL_most (wsV RL 48 RX5 yX5_revisions wsX5_revisions) := goodIn_app (goodIn_of _ (by decide +kernel)) ggL_most_X5_revisions
set_option maxRecDepth 20000 in
theorem ggL_most_L_refuses : GoodIn wsL_most wsL_refuses := goodIn_ca (goodIn_ca (goodIn_ca (goodIn_r _ [338, 339, 340, 341, 308, 309, 310, 3, 311, 88, 89, 31, 139, 140, 141, 204, 205, 206, 207, 27, 166, 14, 15, 33, 208, 209, 210, 30, 211, 72, 212, 213, 214, 215, 216, 217, 66, 67, 68, 146, 147, 218, 219, 220, 221, 222, 223, 224, 13, 225, 94, 40, 226, 227, 228, 229, 230, 231, 232, 233, 234, 235, 236, 73, 237, 238, 239, 240, 241, 242, 243, 244, 245, 246, 247, 248, 249, 250, 251, 252, 253, 254, 255, 256, 257, 258, 259, 260, 261, 262, 263, 264, 320, 321, 76, 322, 78, 79, 323, 324, 325, 326, 131, 132, 85, 86, 87, 90, 91, 92, 93, 327, 328, 329, 330, 142, 143, 144, 145, 331, 332, 333, 26, 334, 57, 64, 60, 335, 178, 179, 180, 181, 74, 75, 77, 80, 81, 82, 83, 84, 95, 96, 97, 98, 99, 100, 101, 102, 103, 104, 105, 106, 107, 108, 109, 110, 111, 112, 113, 114, 115, 19, 116, 117, 118, 119, 120, 121, 122, 123, 124, 125, 18, 126, 45, 127, 128, 129, 130, 133, 134, 23, 135, 136, 137, 138, 148, 149, 150, 22, 151, 152, 153, 154, 155, 156, 49, 50, 51, 52, 157, 158, 159, 160, 161, 162, 163, 164, 165, 35, 167, 168, 169, 170, 171, 172, 173, 174, 175, 176, 177, 182, 183, 184, 185, 186, 187, 188, 189, 190, 191, 61, 62, 63, 59, 58, 192, 193, 194, 195, 196, 197, 198, 199, 200, 201, 202, 203, 265, 266, 267, 268, 269, 270, 271, 272, 273, 274, 275, 276, 277, 278, 279, 280, 281, 282, 283, 284, 285, 286, 287, 288, 289, 290, 291, 292, 293, 294, 295, 296, 297, 298, 299, 300, 301, 302, 303, 304, 305, 306, 307, 312, 313, 314, 315, 342, 343, 344, 345, 346, 347, 348, 349, 350, 351, 352, 353, 354, 355, 370, 371, 362, 363, 364, 365, 366, 367, 368, 369, 356, 357, 358, 359, 360, 361] rfl (by decide +kernel)) (goodIn_sub (fun _ h => List.mem_cons_of_mem _ (List.mem_append_left _ (List.mem_append_left _ (List.mem_append_right _ h)))) (by decide +kernel))) (goodIn_sub (fun _ h => List.mem_cons_of_mem _ (List.mem_append_right _ h)) (by decide +kernel))) (goodIn_sub (fun _ h => List.mem_cons_of_mem _ (List.mem_append_left _ (List.mem_append_right _ h))) (by decide +kernel))
set_option maxRecDepth 20000 in
theorem gL_most_L_refuses : GoodIn wsL_most (va_wsS RL 87 yL_refuses wsL_refuses) := goodIn_app (goodIn_of _ (by decide +kernel)) ggL_most_L_refuses
theorem dL_most_0 : decode cL_most 0 = .ok (.new 8, 3) := by decide +kernel
theorem dL_most_3 : decode cL_most 3 = .ok (.dup, 1) := by decide +kernel
theorem dL_most_4 : decode cL_most 4 = .ok (.invokespecial 86, 3) := by decide +kernel
theorem dL_most_7 : decode cL_most 7 = .ok (.astore_n 0, 1) := by decide +kernel
theorem dL_most_8 : decode cL_most 8 = .ok (.iconst 0, 1) := by decide +kernel
theorem dL_most_9 : decode cL_most 9 = .ok (.istore_n 1, 1) := by decide +kernel
theorem dL_most_10 : decode cL_most 10 = .ok (.iload_n 1, 1) := by decide +kernel
theorem dL_most_11 : decode cL_most 11 = .ok (.bipush 15, 2) := by decide +kernel
theorem dL_most_13 : decode cL_most 13 = .ok (.if_icmp .ge 38, 3) := by decide +kernel
theorem dL_most_16 : decode cL_most 16 = .ok (.aload_n 0, 1) := by decide +kernel
theorem dL_most_17 : decode cL_most 17 = .ok (.iconst 0, 1) := by decide +kernel
theorem dL_most_18 : decode cL_most 18 = .ok (.iload_n 1, 1) := by decide +kernel
theorem dL_most_19 : decode cL_most 19 = .ok (.iconst 1, 1) := by decide +kernel
theorem dL_most_20 : decode cL_most 20 = .ok (.isub, 1) := by decide +kernel
theorem dL_most_21 : decode cL_most 21 = .ok (.iconst 0, 1) := by decide +kernel
theorem dL_most_22 : decode cL_most 22 = .ok (.iconst 0, 1) := by decide +kernel
theorem dL_most_23 : decode cL_most 23 = .ok (.iconst 0, 1) := by decide +kernel
theorem dL_most_24 : decode cL_most 24 = .ok (.iconst 0, 1) := by decide +kernel
theorem dL_most_25 : decode cL_most 25 = .ok (.invokestatic 81, 3) := by decide +kernel
theorem dL_most_28 : decode cL_most 28 = .ok (.iload_n 1, 1) := by decide +kernel
theorem dL_most_29 : decode cL_most 29 = .ok (.bipush 14, 2) := by decide +kernel
theorem dL_most_31 : decode cL_most 31 = .ok (.if_icmp .ge 7, 3) := by decide +kernel
theorem dL_most_34 : decode cL_most 34 = .ok (.iload_n 1, 1) := by decide +kernel
theorem dL_most_35 : decode cL_most 35 = .ok (.goto 5, 3) := by decide +kernel
theorem dL_most_38 : decode cL_most 38 = .ok (.bipush (-73), 2) := by decide +kernel
theorem dL_most_40 : decode cL_most 40 = .ok (.if_icmp .eq 5, 3) := by decide +kernel
theorem dL_most_43 : decode cL_most 43 = .ok (.iconst 0, 1) := by decide +kernel
theorem dL_most_44 : decode cL_most 44 = .ok (.ireturn, 1) := by decide +kernel
theorem dL_most_45 : decode cL_most 45 = .ok (.iinc 1 1, 3) := by decide +kernel
theorem dL_most_48 : decode cL_most 48 = .ok (.goto (-38), 3) := by decide +kernel
theorem dL_most_51 : decode cL_most 51 = .ok (.iconst 0, 1) := by decide +kernel
theorem dL_most_52 : decode cL_most 52 = .ok (.istore_n 1, 1) := by decide +kernel
theorem dL_most_53 : decode cL_most 53 = .ok (.iload_n 1, 1) := by decide +kernel
theorem dL_most_54 : decode cL_most 54 = .ok (.bipush 11, 2) := by decide +kernel
theorem dL_most_56 : decode cL_most 56 = .ok (.if_icmp .ge 38, 3) := by decide +kernel
theorem dL_most_59 : decode cL_most 59 = .ok (.aload_n 0, 1) := by decide +kernel
theorem dL_most_60 : decode cL_most 60 = .ok (.iconst 1, 1) := by decide +kernel
theorem dL_most_61 : decode cL_most 61 = .ok (.iload_n 1, 1) := by decide +kernel
theorem dL_most_62 : decode cL_most 62 = .ok (.iconst 1, 1) := by decide +kernel
theorem dL_most_63 : decode cL_most 63 = .ok (.isub, 1) := by decide +kernel
theorem dL_most_64 : decode cL_most 64 = .ok (.iconst 0, 1) := by decide +kernel
theorem dL_most_65 : decode cL_most 65 = .ok (.iconst 0, 1) := by decide +kernel
theorem dL_most_66 : decode cL_most 66 = .ok (.iconst 0, 1) := by decide +kernel
theorem dL_most_67 : decode cL_most 67 = .ok (.iconst 0, 1) := by decide +kernel
theorem dL_most_68 : decode cL_most 68 = .ok (.invokestatic 81, 3) := by decide +kernel
theorem dL_most_71 : decode cL_most 71 = .ok (.iload_n 1, 1) := by decide +kernel
theorem dL_most_72 : decode cL_most 72 = .ok (.bipush 10, 2) := by decide +kernel
theorem dL_most_74 : decode cL_most 74 = .ok (.if_icmp .ge 7, 3) := by decide +kernel
theorem dL_most_77 : decode cL_most 77 = .ok (.iload_n 1, 1) := by decide +kernel
theorem dL_most_78 : decode cL_most 78 = .ok (.goto 5, 3) := by decide +kernel
theorem dL_most_81 : decode cL_most 81 = .ok (.bipush (-73), 2) := by decide +kernel
theorem dL_most_83 : decode cL_most 83 = .ok (.if_icmp .eq 5, 3) := by decide +kernel
theorem dL_most_86 : decode cL_most 86 = .ok (.iconst 0, 1) := by decide +kernel
theorem dL_most_87 : decode cL_most 87 = .ok (.ireturn, 1) := by decide +kernel
theorem dL_most_88 : decode cL_most 88 = .ok (.iinc 1 1, 3) := by decide +kernel
theorem dL_most_91 : decode cL_most 91 = .ok (.goto (-38), 3) := by decide +kernel
theorem dL_most_94 : decode cL_most 94 = .ok (.aload_n 0, 1) := by decide +kernel
theorem dL_most_95 : decode cL_most 95 = .ok (.iconst 2, 1) := by decide +kernel
theorem dL_most_96 : decode cL_most 96 = .ok (.bipush 7, 2) := by decide +kernel
theorem dL_most_98 : decode cL_most 98 = .ok (.iconst 1, 1) := by decide +kernel
theorem dL_most_99 : decode cL_most 99 = .ok (.invokevirtual 16, 3) := by decide +kernel
theorem dL_most_102 : decode cL_most 102 = .ok (.ifCond .eq 23, 3) := by decide +kernel
theorem dL_most_105 : decode cL_most 105 = .ok (.aload_n 0, 1) := by decide +kernel
theorem dL_most_106 : decode cL_most 106 = .ok (.iconst 2, 1) := by decide +kernel
theorem dL_most_107 : decode cL_most 107 = .ok (.bipush 6, 2) := by decide +kernel
theorem dL_most_109 : decode cL_most 109 = .ok (.invokevirtual 61, 3) := by decide +kernel
theorem dL_most_112 : decode cL_most 112 = .ok (.ifCond .ne 13, 3) := by decide +kernel
theorem dL_most_115 : decode cL_most 115 = .ok (.aload_n 0, 1) := by decide +kernel
theorem dL_most_116 : decode cL_most 116 = .ok (.iconst 2, 1) := by decide +kernel
theorem dL_most_117 : decode cL_most 117 = .ok (.bipush 13, 2) := by decide +kernel
theorem dL_most_119 : decode cL_most 119 = .ok (.invokevirtual 61, 3) := by decide +kernel
theorem dL_most_122 : decode cL_most 122 = .ok (.ifCond .ne 5, 3) := by decide +kernel
theorem dL_most_125 : decode cL_most 125 = .ok (.iconst 0, 1) := by decide +kernel
theorem dL_most_126 : decode cL_most 126 = .ok (.ireturn, 1) := by decide +kernel
theorem dL_most_127 : decode cL_most 127 = .ok (.iconst 0, 1) := by decide +kernel
theorem dL_most_128 : decode cL_most 128 = .ok (.istore_n 1, 1) := by decide +kernel
theorem dL_most_129 : decode cL_most 129 = .ok (.iload_n 1, 1) := by decide +kernel
