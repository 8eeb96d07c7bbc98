/-! the law: words of the callees -/
set_option maxRecDepth 20000 in
theorem ggL_begin_X5_begin : GoodIn wsL_begin wsX5_begin := goodIn_ca (goodIn_r _ [6, 7, 8, 9, 10, 11, 5, 12, 13, 14, 15, 16, 17, 18, 19, 20, 21, 22, 23, 24, 25, 26, 27, 28, 29, 30, 31, 32, 33, 34, 35, 36, 37, 38, 39, 40, 41, 42, 43, 44, 45, 46, 47, 48, 49, 50, 51, 52, 53, 54, 55, 56, 57, 58, 59, 60, 61, 62, 63, 64, 65, 66, 67, 68, 69, 70, 71, 72, 73, 74, 75, 76, 77, 78, 79, 80, 81, 82, 83, 84, 85, 86, 87, 88, 89, 90, 91, 92, 93, 94, 95, 96, 97, 98, 99, 100, 101, 102, 103, 104, 105, 106, 107, 108, 109, 110, 111, 112, 113, 114, 115, 116, 117, 118, 119, 120, 121] rfl (by decide +kernel)) (goodIn_sub (fun _ h => List.mem_cons_of_mem _ (List.mem_append_right _ h)) (by decide +kernel))
set_option maxRecDepth 20000 in
theorem gL_begin_X5_begin : GoodIn wsL_begin (wsV RL 7 RX5 yX5_begin wsX5_begin) := goodIn_app (goodIn_of _ (by decide +kernel)) ggL_begin_X5_begin
set_option maxRecDepth 20000 in
theorem ggL_set_X5_set : GoodIn wsL_set wsX5_set := goodIn_ca (goodIn_r _ [6, 7, 8, 9, 10, 11, 12, 5, 13, 14, 15, 16, 17, 18, 19, 20, 21, 22, 23, 24, 25, 26, 27, 28, 29, 30, 31, 32, 33, 34, 35, 36, 37, 38, 39, 40, 41, 42, 43, 44, 45, 46, 47, 48, 49, 50, 51, 52, 53, 54, 55, 56, 57, 58, 59, 60, 61, 62, 63, 64, 65, 66, 67, 68, 69, 70, 71, 72, 73, 74, 75, 76, 77, 78, 79, 80, 81, 82, 83, 84, 85, 86, 87, 88, 89, 90, 91, 92, 93, 94, 95, 96, 97, 98, 99, 100, 101, 102, 103, 104, 105, 106, 107, 108, 109, 110, 111, 112, 113] rfl (by decide +kernel)) (goodIn_sub (fun _ h => List.mem_cons_of_mem _ (List.mem_append_right _ h)) (by decide +kernel))
set_option maxRecDepth 20000 in
theorem gL_set_X5_set : GoodIn wsL_set (wsV RL 15 RX5 yX5_set wsX5_set) := goodIn_app (goodIn_of _ (by decide +kernel)) ggL_set_X5_set
set_option maxRecDepth 20000 in
theorem ggL_value_X5_value : GoodIn wsL_value wsX5_value := goodIn_ca (goodIn_r _ [6, 7, 8, 9, 5, 10, 11, 12, 13, 14, 15, 16, 17, 18, 19, 20, 21, 22, 23, 24, 25, 26, 27, 28, 29, 30, 31, 32, 33, 34, 35, 36, 37] rfl (by decide +kernel)) (goodIn_sub (fun _ h => List.mem_cons_of_mem _ (List.mem_append_right _ h)) (by decide +kernel))
set_option maxRecDepth 20000 in
theorem gL_value_X5_value : GoodIn wsL_value (wsV RL 18 RX5 yX5_value wsX5_value) := goodIn_app (goodIn_of _ (by decide +kernel)) ggL_value_X5_value
set_option maxRecDepth 20000 in
theorem ggL_setCurve_X5_setCurve : GoodIn wsL_setCurve wsX5_setCurve := goodIn_ca (goodIn_ca (goodIn_r _ [7, 8, 9, 10, 11, 12, 13, 6, 14, 15, 16, 17, 18, 19, 20, 21, 22, 23, 24, 25, 26, 27, 28, 29, 30, 31, 32, 33, 34, 35, 36, 37, 38, 39, 40, 41, 42, 43, 44, 45, 46, 47, 48, 49, 50, 51, 52, 53, 54, 55, 56, 57, 58, 59, 60, 61, 62, 63, 64, 65, 66, 67, 68, 69, 70, 71, 72, 73, 74, 75, 76, 77, 78, 79, 80, 81, 82, 83, 84, 85, 86, 87, 88, 89, 90, 91, 92, 93, 94, 95, 96, 97, 98, 99, 100, 101, 102, 103, 104, 105, 106, 107, 108, 109, 110, 111, 112] rfl (by decide +kernel)) (goodIn_sub (fun _ h => List.mem_cons_of_mem _ (List.mem_append_left _ (List.mem_append_right _ h))) (by decide +kernel))) (goodIn_sub (fun _ h => List.mem_cons_of_mem _ (List.mem_append_right _ h)) (by decide +kernel))
set_option maxRecDepth 20000 in
theorem gL_setCurve_X5_setCurve : GoodIn wsL_setCurve (wsV RL 22 RX5 yX5_setCurve wsX5_setCurve) := goodIn_app (goodIn_of _ (by decide +kernel)) ggL_setCurve_X5_setCurve
set_option maxRecDepth 20000 in
theorem ggL_curve_X5_curve : GoodIn wsL_curve wsX5_curve := goodIn_ca (goodIn_r _ [6, 7, 8, 9, 5, 10, 11, 12, 13, 14, 15, 16, 17, 18, 19, 20, 21, 22, 23, 24, 25, 26, 27, 28, 29, 30, 31, 32, 33, 34, 35, 36] rfl (by decide +kernel)) (goodIn_sub (fun _ h => List.mem_cons_of_mem _ (List.mem_append_right _ h)) (by decide +kernel))
set_option maxRecDepth 20000 in
theorem gL_curve_X5_curve : GoodIn wsL_curve (wsV RL 28 RX5 yX5_curve wsX5_curve) := goodIn_app (goodIn_of _ (by decide +kernel)) ggL_curve_X5_curve
set_option maxRecDepth 20000 in
theorem ggL_measure_X5_measure : GoodIn wsL_measure wsX5_measure := goodIn_ca (goodIn_r _ [6, 7, 8, 9, 10, 5, 11, 12, 13, 14, 15, 16, 17, 18, 19, 20, 21, 22, 23, 24, 25, 26, 27, 28, 29, 30, 31, 32, 33, 34, 35, 36, 37, 38, 39, 40, 41, 42, 43, 44, 45, 46, 47, 48, 49, 50, 51, 52, 53, 54, 55, 56, 57, 58, 59, 60, 61, 62, 63, 64, 65, 66, 67, 68, 69, 70, 71, 72, 73, 74, 75, 76, 77, 78, 79, 80, 81, 82, 83, 84, 85, 86, 87, 88, 89, 90, 91, 92, 93, 94, 95, 96, 97, 98, 99, 100, 101, 102, 103, 104, 105, 106, 107, 108, 109, 110, 111, 112, 113, 114, 115, 116, 117, 118, 119, 120, 121, 122, 123, 124, 125, 126, 127, 128, 129, 130, 131, 132, 133, 134, 135, 136, 137, 138, 139, 140, 141, 142, 143, 144, 145, 146, 147, 148, 149, 150, 151, 152, 153, 154, 155, 156, 157, 158, 159, 160, 161, 162, 163, 164, 165, 166, 167, 168, 169, 170, 171, 172, 173, 174, 175, 176, 177, 178, 179, 180, 181, 182, 183, 184, 185, 186, 187, 188, 189, 190, 191, 192, 193, 194, 195, 196, 197, 198, 199, 200, 201, 202, 203, 204, 205, 206, 207, 208, 209, 210, 211, 212, 213, 214, 215, 216, 217, 218, 219, 220] rfl (by decide +kernel)) (goodIn_sub (fun _ h => List.mem_cons_of_mem _ (List.mem_append_right _ h)) (by decide +kernel))
set_option maxRecDepth 20000 in
theorem gL_measure_X5_measure : GoodIn wsL_measure (wsV RL 32 RX5 yX5_measure wsX5_measure) := goodIn_app (goodIn_of _ (by decide +kernel)) ggL_measure_X5_measure
set_option maxRecDepth 20000 in
theorem ggL_repeat_X5_repeat : GoodIn wsL_repeat wsX5_repeat := goodIn_ca (goodIn_r _ [6, 7, 8, 9, 10, 5, 11, 12, 13, 14, 15, 16, 17, 18, 19, 20, 21, 22, 23, 24, 25, 26, 27, 28, 29, 30, 31, 32, 33, 34, 35, 36, 37, 38, 39, 40, 41, 42, 43, 44, 45, 46, 47, 48, 49, 50, 51, 52, 53, 54, 55, 56, 57, 58, 59, 60, 61, 62, 63, 64, 65, 66, 67, 68, 69, 70, 71, 72, 73, 74, 75, 76, 77, 78, 79, 80, 81, 82, 83, 84, 85, 86, 87, 88, 89, 90, 91, 92, 93, 94, 95, 96, 97, 98, 99, 100, 101, 102, 103, 104, 105, 106, 107, 108, 109, 110, 111, 112, 113, 114, 115, 116, 117, 118, 119, 120, 121, 122, 123, 124, 125, 126, 127, 128, 129, 130, 131, 132, 133, 134, 135, 136, 137, 138, 139, 140, 141, 142, 143, 144, 145, 146, 147, 148, 149, 150, 151, 152, 153, 154, 155, 156, 157, 158, 159, 160, 161, 162, 163, 164, 165, 166, 167, 168, 169, 170, 171, 172, 173, 174, 175, 176, 177, 178, 179, 180, 181, 182, 183, 184, 185, 186, 187, 188, 189, 190, 191, 192, 193, 194, 195, 196, 197, 198, 199, 200, 201, 202, 203, 204, 205, 206, 207, 208, 209, 210, 211, 212, 213, 214, 215, 216, 217, 218, 219, 220, 221, 222, 223, 224, 225, 226, 227, 228, 229, 230] rfl (by decide +kernel)) (goodIn_sub (fun _ h => List.mem_cons_of_mem _ (List.mem_append_right _ h)) (by decide +kernel))
set_option maxRecDepth 20000 in
theorem gL_repeat_X5_repeat : GoodIn wsL_repeat (wsV RL 35 RX5 yX5_repeat wsX5_repeat) := goodIn_app (goodIn_of _ (by decide +kernel)) ggL_repeat_X5_repeat
set_option maxRecDepth 20000 in
theorem ggL_simulate_X5_simulate : GoodIn wsL_simulate wsX5_simulate := goodIn_ca (goodIn_r _ [6, 7, 8, 9, 10, 5, 11, 12, 13, 14, 15, 16, 17, 18, 19, 20, 21, 22, 23, 24, 25, 26, 27, 28, 29, 30, 31, 32, 33, 34, 35, 36, 37, 38, 39, 40, 41, 42, 43, 44, 45, 46, 47, 48, 49, 50, 51, 52, 53, 54, 55, 56, 57, 58, 59, 60, 61, 62, 63, 64, 65, 66, 67, 68, 69, 70, 71, 72, 73, 74, 75, 76, 77, 78, 79, 80, 81, 82, 83, 84, 85, 86, 87, 88, 89, 90, 91, 92, 93, 94, 95, 96, 97, 98, 99, 100, 101, 102, 103, 104, 105, 106, 107, 108, 109, 110, 111, 112, 113, 114, 115, 116, 117, 118, 119, 120, 121, 122, 123, 124, 125, 126, 127, 128, 129, 130, 131, 132, 133, 134, 135, 136, 137, 138, 139, 140, 141, 142, 143, 144, 145, 146, 147, 148, 149, 150, 151, 152, 153, 154, 155, 156, 157, 158, 159, 160, 161, 162, 163, 164, 165, 166, 167, 168, 169, 170, 171, 172, 173, 174, 175, 176, 177, 178, 179, 180, 181, 182, 183, 184, 185, 186, 187, 188, 189, 190, 191, 192, 193, 194, 195, 196, 197, 198, 199, 200, 201, 202, 203, 204, 205, 206, 207, 208, 209, 210, 211, 212, 213, 214, 215, 216, 217, 218, 219, 220, 221, 222, 223, 224, 225, 226, 227, 228, 229, 230, 231, 232, 233, 234, 235, 236, 237, 238, 239, 240, 241, 242, 243, 244, 245, 246] rfl (by decide +kernel)) (goodIn_sub (fun _ h => List.mem_cons_of_mem _ (List.mem_append_right _ h)) (by decide +kernel))
set_option maxRecDepth 20000 in
theorem gL_simulate_X5_simulate : GoodIn wsL_simulate (wsV RL 39 RX5 yX5_simulate wsX5_simulate) := goodIn_app (goodIn_of _ (by decide +kernel)) ggL_simulate_X5_simulate
set_option maxRecDepth 20000 in
theorem ggL_charge_X5_charge : GoodIn wsL_charge wsX5_charge := goodIn_ca (goodIn_r _ [6, 7, 8, 9, 5, 10, 11, 12, 13, 14, 15, 16, 17, 18, 19, 20, 21, 22, 23, 24, 25, 26, 27, 28, 29, 30, 31, 32, 33, 34, 35, 36, 37, 38, 39, 40, 41, 42, 43, 44, 45, 46, 47, 48, 49] rfl (by decide +kernel)) (goodIn_sub (fun _ h => List.mem_cons_of_mem _ (List.mem_append_right _ h)) (by decide +kernel))
set_option maxRecDepth 20000 in
theorem gL_charge_X5_charge : GoodIn wsL_charge (wsV RL 42 RX5 yX5_charge wsX5_charge) := goodIn_app (goodIn_of _ (by decide +kernel)) ggL_charge_X5_charge
set_option maxRecDepth 20000 in
theorem ggL_soc_X5_soc : GoodIn wsL_soc wsX5_soc := goodIn_ca (goodIn_r _ [6, 7, 8, 9, 5, 10, 11, 12, 13, 14, 15, 16, 17, 18, 19, 20, 21, 22, 23, 24, 25, 26, 27, 28, 29, 30, 31, 32, 33, 34, 35, 36, 37, 38, 39, 40, 41, 42, 43, 44, 45, 46, 47, 48, 49, 50, 51, 52, 53, 54] rfl (by decide +kernel)) (goodIn_sub (fun _ h => List.mem_cons_of_mem _ (List.mem_append_right _ h)) (by decide +kernel))
set_option maxRecDepth 20000 in
theorem gL_soc_X5_soc : GoodIn wsL_soc (wsV RL 46 RX5 yX5_soc wsX5_soc) := goodIn_app (goodIn_of _ (by decide +kernel)) ggL_soc_X5_soc
set_option maxRecDepth 20000 in
theorem ggL_status_X5_status : GoodIn wsL_status wsX5_status := goodIn_ca (goodIn_r _ [6, 7, 8, 9, 5, 10, 11, 12, 13, 14, 15, 16, 17, 18, 19, 20, 21, 22, 23, 24, 25, 26, 27, 28, 29, 30, 31, 32, 33, 34, 35, 36, 37, 38, 39, 40, 41, 42, 43, 44, 45, 46, 47, 48, 49, 50, 51, 52, 53, 54, 55, 56, 57, 58, 59, 60] rfl (by decide +kernel)) (goodIn_sub (fun _ h => List.mem_cons_of_mem _ (List.mem_append_right _ h)) (by decide +kernel))
set_option maxRecDepth 20000 in
theorem gL_status_X5_status : GoodIn wsL_status (wsV RL 49 RX5 yX5_status wsX5_status) := goodIn_app (goodIn_of _ (by decide +kernel)) ggL_status_X5_status
set_option maxRecDepth 20000 in
theorem ggL_openVoltage_X5_openVoltage : GoodIn wsL_openVoltage wsX5_openVoltage := goodIn_ca (goodIn_r _ [6, 7, 8, 9, 5, 10, 11, 12, 13, 14, 15, 16, 17, 18, 19, 20, 21, 22, 23, 24, 25, 26, 27, 28, 29, 30, 31, 32, 33, 34, 35, 36, 37, 38, 39, 40, 41, 42, 43, 44, 45, 46, 47, 48, 49, 50, 51, 52, 53, 54, 55, 56] rfl (by decide +kernel)) (goodIn_sub (fun _ h => List.mem_cons_of_mem _ (List.mem_append_right _ h)) (by decide +kernel))
set_option maxRecDepth 20000 in
theorem gL_openVoltage_X5_openVoltage : GoodIn wsL_openVoltage (wsV RL 52 RX5 yX5_openVoltage wsX5_openVoltage) := goodIn_app (goodIn_of _ (by decide +kernel)) ggL_openVoltage_X5_openVoltage
set_option maxRecDepth 20000 in
theorem ggL_invert_X5_invert : GoodIn wsL_invert wsX5_invert := goodIn_ca (goodIn_r _ [6, 7, 8, 9, 5, 10, 11, 12, 13, 14, 15, 16, 17, 18, 19, 20, 21, 22, 23, 24, 25, 26, 27, 28, 29, 30, 31, 32, 33, 34, 35, 36, 37, 38, 39, 40, 41, 42, 43, 44, 45, 46, 47, 48, 49, 50, 51, 52, 53, 54, 55, 56, 57, 58, 59, 60] rfl (by decide +kernel)) (goodIn_sub (fun _ h => List.mem_cons_of_mem _ (List.mem_append_right _ h)) (by decide +kernel))
set_option maxRecDepth 20000 in
theorem gL_invert_X5_invert : GoodIn wsL_invert (wsV RL 55 RX5 yX5_invert wsX5_invert) := goodIn_app (goodIn_of _ (by decide +kernel)) ggL_invert_X5_invert
set_option maxRecDepth 20000 in
theorem ggL_anchor_X5_anchor : GoodIn wsL_anchor wsX5_anchor := goodIn_ca (goodIn_ca (goodIn_r _ [7, 8, 9, 10, 11, 12, 13, 14, 15, 16, 17, 18, 6, 19, 20, 21, 22, 23, 24, 25, 26, 27, 28, 29, 30, 31, 32, 33, 34, 35, 36, 37, 38, 39, 40, 41, 42, 43, 44, 45, 46, 47, 48, 49, 50, 51, 52, 53] rfl (by decide +kernel)) (goodIn_sub (fun _ h => List.mem_cons_of_mem _ (List.mem_append_left _ (List.mem_append_right _ h))) (by decide +kernel))) (goodIn_sub (fun _ h => List.mem_cons_of_mem _ (List.mem_append_right _ h)) (by decide +kernel))
set_option maxRecDepth 20000 in
theorem gL_anchor_X5_anchor : GoodIn wsL_anchor (wsV RL 58 RX5 yX5_anchor wsX5_anchor) := goodIn_app (goodIn_of _ (by decide +kernel)) ggL_anchor_X5_anchor
set_option maxRecDepth 20000 in
theorem ggL_boundAfter_X5_boundAfter : GoodIn wsL_boundAfter wsX5_boundAfter := goodIn_ca (goodIn_r _ [6, 7, 8, 9, 10, 11, 12, 5, 13, 14, 15, 16, 17, 18, 19, 20, 21, 22, 23, 24, 25, 26, 27, 28, 29, 30, 31, 32, 33, 34, 35, 36, 37, 38, 39, 40, 41, 42, 43, 44, 45, 46, 47, 48, 49, 50, 51, 52, 53, 54, 55, 56, 57, 58, 59, 60, 61, 62, 63, 64, 65, 66, 67, 68, 69, 70, 71, 72, 73, 74, 75] rfl (by decide +kernel)) (goodIn_sub (fun _ h => List.mem_cons_of_mem _ (List.mem_append_right _ h)) (by decide +kernel))
set_option maxRecDepth 20000 in
theorem gL_boundAfter_X5_boundAfter : GoodIn wsL_boundAfter (wsV RL 61 RX5 yX5_boundAfter wsX5_boundAfter) := goodIn_app (goodIn_of _ (by decide +kernel)) ggL_boundAfter_X5_boundAfter
set_option maxRecDepth 20000 in
theorem ggL_reaches_X5_reaches : GoodIn wsL_reaches wsX5_reaches := goodIn_ca (goodIn_r _ [6, 7, 8, 9, 10, 11, 12, 13, 14, 5, 15, 16, 17, 18, 19, 20, 21, 22, 23, 24, 25, 26, 27, 28, 29, 30, 31, 32, 33, 34, 35, 36, 37, 38, 39, 40, 41, 42, 43, 44, 45, 46, 47, 48, 49, 50, 51, 52, 53, 54, 55, 56, 57, 58, 59, 60, 61, 62, 63, 64, 65, 66, 67, 68, 69, 70, 71, 72, 73, 74, 75, 76, 77, 78, 79, 80, 81, 82, 83, 84] rfl (by decide +kernel)) (goodIn_sub (fun _ h => List.mem_cons_of_mem _ (List.mem_append_right _ h)) (by decide +kernel))
set_option maxRecDepth 20000 in
theorem gL_reaches_X5_reaches : GoodIn wsL_reaches (wsV RL 65 RX5 yX5_reaches wsX5_reaches) := goodIn_app (goodIn_of _ (by decide +kernel)) ggL_reaches_X5_reaches
set_option maxRecDepth 20000 in
theorem ggL_lasts_X5_lasts : GoodIn wsL_lasts wsX5_lasts := goodIn_ca (goodIn_r _ [6, 7, 8, 9, 10, 5, 11, 12, 13, 14, 15, 16, 17, 18, 19, 20, 21, 22, 23, 24, 25, 26, 27, 28, 29, 30, 31, 32, 33, 34, 35, 36, 37, 38, 39, 40, 41, 42, 43, 44, 45, 46, 47, 48, 49, 50, 51, 52, 53, 54, 55, 56, 57, 58, 59, 60, 61, 62, 63, 64, 65, 66, 67, 68, 69, 70, 71, 72, 73, 74, 75, 76, 77, 78] rfl (by decide +kernel)) (goodIn_sub (fun _ h => List.mem_cons_of_mem _ (List.mem_append_right _ h)) (by decide +kernel))
set_option maxRecDepth 20000 in
theorem gL_lasts_X5_lasts : GoodIn wsL_lasts (wsV RL 68 RX5 yX5_lasts wsX5_lasts) := goodIn_app (goodIn_of _ (by decide +kernel)) ggL_lasts_X5_lasts
set_option maxRecDepth 20000 in
theorem ggL_wouldAnchor_X5_wouldAnchor : GoodIn wsL_wouldAnchor wsX5_wouldAnchor := goodIn_ca (goodIn_r _ [6, 7, 8, 9, 10, 5, 11, 12, 13, 14, 15, 16, 17, 18, 19, 20, 21, 22, 23, 24, 25, 26, 27, 28, 29, 30, 31, 32, 33, 34, 35, 36, 37, 38, 39, 40, 41, 42, 43, 44, 45, 46, 47, 48, 49, 50, 51, 52, 53, 54, 55, 56, 57, 58, 59, 60, 61, 62, 63, 64, 65, 66, 67, 68, 69, 70, 71, 72, 73, 74, 75, 76, 77, 78, 79, 80, 81, 82, 83, 84, 85, 86, 87, 88, 89, 90, 91, 92, 93, 94, 95, 96, 97, 98, 99, 100, 101, 102, 103, 104, 105, 106, 107, 108, 109, 110, 111, 112, 113, 114, 115, 116, 117, 118, 119, 120, 121, 122, 123, 124, 125, 126, 127, 128, 129, 130, 131, 132, 133, 134, 135, 136, 137, 138, 139, 140, 141, 142, 143, 144, 145, 146, 147, 148, 149, 150, 151, 152, 153, 154, 155, 156, 157, 158, 159, 160, 161, 162, 163, 164, 165, 166, 167, 168, 169, 170, 171, 172, 173, 174, 175, 176, 177, 178, 179, 180, 181, 182, 183, 184, 185, 186, 187, 188, 189, 190, 191, 192, 193, 194, 195, 196, 197, 198, 199, 200, 201, 202, 203, 204, 205, 206, 207, 208, 209, 210, 211, 212, 213, 214, 215, 216, 217, 218, 219, 220, 221, 222, 223, 224, 225, 226] rfl (by decide +kernel)) (goodIn_sub (fun _ h => List.mem_cons_of_mem _ (List.mem_append_right _ h)) (by decide +kernel))
set_option maxRecDepth 20000 in
theorem gL_wouldAnchor_X5_wouldAnchor : GoodIn wsL_wouldAnchor (wsV RL 71 RX5 yX5_wouldAnchor wsX5_wouldAnchor) := goodIn_app (goodIn_of _ (by decide +kernel)) ggL_wouldAnchor_X5_wouldAnchor
set_option maxRecDepth 20000 in
theorem ggL_append_X5_append : GoodIn wsL_append wsX5_append := goodIn_ca (goodIn_ca (goodIn_r _ [7, 8, 9, 10, 11, 12, 6, 13, 14, 15, 16, 17, 18, 19, 20, 21, 22, 23, 24, 25, 26, 27, 28, 29, 30, 31, 32, 33, 34, 35, 36, 37, 38, 39, 40, 41, 42, 43, 44] rfl (by decide +kernel)) (goodIn_sub (fun _ h => List.mem_cons_of_mem _ (List.mem_append_left _ (List.mem_append_right _ h))) (by decide +kernel))) (goodIn_sub (fun _ h => List.mem_cons_of_mem _ (List.mem_append_right _ h)) (by decide +kernel))
set_option maxRecDepth 20000 in
theorem gL_append_X5_append : GoodIn wsL_append (wsV RL 74 RX5 yX5_append wsX5_append) := goodIn_app (goodIn_of _ (by decide +kernel)) ggL_append_X5_append
set_option maxRecDepth 20000 in
theorem ggL_undo_X5_undo : GoodIn wsL_undo wsX5_undo := goodIn_ca (goodIn_r _ [6, 7, 8, 9, 10, 11, 12, 13, 14, 15, 16, 17, 18, 19, 20, 21, 22, 23, 24, 25, 26, 27, 28, 29, 30, 31, 32, 33, 34, 35, 36, 37, 38, 39, 40, 41, 42, 43, 44, 45, 46, 47, 48, 49, 50, 51, 52, 53, 54, 55, 56, 57, 58, 59, 60, 61, 62, 63, 64, 65, 66, 67, 68, 69, 70, 71, 72, 73, 74, 75, 76, 77, 78, 79, 80, 81, 82, 83, 84, 85, 86, 87, 88, 89, 90, 91, 92] rfl (by decide +kernel)) (goodIn_sub (fun _ h => List.mem_cons_of_mem _ (List.mem_append_right _ h)) (by decide +kernel))
set_option maxRecDepth 20000 in
theorem gL_undo_X5_undo : GoodIn wsL_undo (wsV RL 79 RX5 yX5_undo wsX5_undo) := goodIn_app (goodIn_of _ (by decide +kernel)) ggL_undo_X5_undo
set_option maxRecDepth 20000 in
theorem ggL_law_X5_init : GoodIn wsL_law wsX5_init := goodIn_r _ [9, 10, 11, 12, 13, 14, 15, 16, 17, 18, 19, 20, 21, 22, 23, 24, 25, 26, 27, 28, 29, 30, 31, 32, 33, 34, 35, 36, 37, 38, 39, 40, 41, 42, 43, 44, 45, 46, 47, 48, 49, 50, 51, 52, 53, 54, 55, 56, 57, 58, 59, 60, 61, 62, 63, 64, 65, 66, 67, 68, 69, 70, 71, 72, 73, 74, 75, 76, 77, 78, 79, 80, 81, 82, 83, 84, 85, 86, 87, 88, 89, 90, 91, 92, 93, 892, 893, 894, 895, 896, 897, 898, 899, 900, 901, 902, 903, 904, 905, 906, 907, 908, 909, 878, 879, 880, 881, 910, 911, 912, 913, 914, 915, 916, 917, 918, 919, 920, 921, 922] rfl (by decide +kernel)
set_option maxRecDepth 20000 in
theorem gL_law_X5_init : GoodIn wsL_law (wsX5_init) := ggL_law_X5_init
set_option maxRecDepth 20000 in
theorem ggL_law_X6_init : GoodIn wsL_law wsX6_init := goodIn_r _ [96, 97, 11, 12, 6, 98, 99, 100, 30, 101, 102, 103, 104, 105, 106, 107, 108, 109, 110, 111, 112, 113, 114, 115, 116, 117, 118, 119, 5, 120, 121, 122, 123, 124, 125, 126, 127, 128, 129, 130, 131, 132, 133, 134, 135, 136, 137, 138, 139, 882, 883, 884, 885, 886, 887, 888, 889, 890, 891] rfl (by decide +kernel)
set_option maxRecDepth 20000 in
theorem gL_law_X6_init : GoodIn wsL_law (wsX6_init) := ggL_law_X6_init
set_option maxRecDepth 20000 in
theorem ggL_law_L_begin : GoodIn wsL_law wsL_begin := goodIn_ca (goodIn_r _ [143, 144, 145, 146, 147, 2, 148, 21, 16, 149, 150, 151, 152, 153, 154, 155, 156, 157, 158, 159, 160, 20, 161, 162, 86, 163, 164, 165, 166, 167, 168, 169, 15, 170, 31, 40, 41, 42, 43, 35, 39, 60, 61, 63, 64, 65, 66, 67, 68, 69, 70, 71, 72, 73, 74, 75, 171, 172, 173, 34, 174, 49, 175, 50, 176, 177, 178, 38, 179, 55, 180, 80, 181, 182, 183, 184, 185, 57, 58, 59, 62, 76, 77, 78, 79, 186, 187, 188, 189, 190, 191, 192, 193, 194, 878, 879, 880, 881, 892, 893, 894, 895, 896, 897, 898, 899, 900, 901, 902, 903, 904, 905, 906, 907, 908, 909, 910, 911, 919, 920, 921, 922] rfl (by decide +kernel)) (goodIn_sub (fun _ h => List.mem_append_left _ (List.mem_append_left _ (List.mem_append_right _ h))) (by decide +kernel))
set_option maxRecDepth 20000 in
theorem gL_law_L_begin : GoodIn wsL_law (va_wsS RL 87 yL_begin wsL_begin) := goodIn_app (goodIn_of _ (by decide +kernel)) ggL_law_L_begin
set_option maxRecDepth 20000 in
theorem ggL_law_X6_begin : GoodIn wsL_law wsX6_begin := goodIn_r _ [198, 112, 199, 117, 136, 98, 200, 201, 5, 202, 203, 204, 205, 206, 207, 208, 209, 210, 211, 212, 99, 132, 133, 134, 135, 126, 108, 137, 138, 139, 882, 883, 884, 885, 886, 887, 888, 889, 890, 891] rfl (by decide +kernel)
set_option maxRecDepth 20000 in
theorem gL_law_X6_begin : GoodIn wsL_law (wsV RL 92 RX6 yX6_begin wsX6_begin) := goodIn_app (goodIn_of _ (by decide +kernel)) ggL_law_X6_begin
set_option maxRecDepth 20000 in
theorem ggL_law_X6_thrown : GoodIn wsL_law wsX6_thrown := goodIn_r _ [216, 207, 882, 883, 884, 885, 886, 887, 888, 889, 890, 891] rfl (by decide +kernel)
set_option maxRecDepth 20000 in
theorem gL_law_X6_thrown : GoodIn wsL_law (wsV RL 93 RX6 yX6_thrown wsX6_thrown) := goodIn_app (goodIn_of _ (by decide +kernel)) ggL_law_X6_thrown
set_option maxRecDepth 20000 in
theorem ggL_law_L_set : GoodIn wsL_law wsL_set := goodIn_ca (goodIn_r _ [219, 144, 220, 221, 222, 2, 223, 224, 225, 21, 16, 150, 151, 152, 153, 154, 155, 156, 157, 158, 159, 160, 20, 161, 162, 86, 163, 164, 165, 166, 167, 168, 169, 15, 170, 31, 40, 41, 42, 43, 35, 39, 60, 61, 63, 64, 65, 66, 67, 68, 69, 70, 71, 72, 73, 74, 75, 171, 172, 173, 34, 174, 49, 175, 50, 176, 177, 178, 38, 179, 55, 180, 80, 226, 227, 228, 229, 230, 231, 232, 233, 234, 235, 236, 237, 238, 878, 879, 880, 881, 910, 911, 892, 893, 894, 895, 896, 897, 898, 899, 900, 901, 902, 903, 904, 905, 906, 907, 908, 909, 919, 920, 921, 922] rfl (by decide +kernel)) (goodIn_sub (fun _ h => List.mem_append_left _ (List.mem_append_left _ (List.mem_append_right _ h))) (by decide +kernel))
set_option maxRecDepth 20000 in
theorem gL_law_L_set : GoodIn wsL_law (va_wsS RL 96 yL_set wsL_set) := goodIn_app (goodIn_of _ (by decide +kernel)) ggL_law_L_set
set_option maxRecDepth 20000 in
theorem ggL_law_X6_set : GoodIn wsL_law wsX6_set := goodIn_r _ [242, 243, 98, 200, 201, 5, 202, 244, 245, 246, 247, 248, 136, 199, 249, 112, 116, 105, 114, 104, 203, 204, 205, 206, 207, 208, 209, 210, 211, 212, 99, 250, 251, 252, 253, 254, 255, 256, 257, 882, 883, 884, 885, 886, 887, 888, 889, 890, 891] rfl (by decide +kernel)
set_option maxRecDepth 20000 in
theorem gL_law_X6_set : GoodIn wsL_law (wsV RL 98 RX6 yX6_set wsX6_set) := goodIn_app (goodIn_of _ (by decide +kernel)) ggL_law_X6_set
set_option maxRecDepth 20000 in
theorem ggL_law_L_value : GoodIn wsL_law wsL_value := goodIn_ca (goodIn_r _ [260, 144, 261, 262, 263, 2, 264, 16, 150, 151, 152, 153, 154, 155, 156, 157, 878, 879, 880, 881, 892, 893, 894, 895, 896, 897, 898, 899, 900, 901, 902, 903, 904, 905, 906, 907, 908, 909] rfl (by decide +kernel)) (goodIn_sub (fun _ h => List.mem_append_left _ (List.mem_append_left _ (List.mem_append_right _ h))) (by decide +kernel))
set_option maxRecDepth 20000 in
theorem gL_law_L_value : GoodIn wsL_law (va_wsS RL 99 yL_value wsL_value) := goodIn_app (goodIn_of _ (by decide +kernel)) ggL_law_L_value
set_option maxRecDepth 20000 in
theorem ggL_law_X6_value : GoodIn wsL_law wsX6_value := goodIn_r _ [268, 243, 98, 200, 201, 5, 202, 203, 204, 205, 206, 207, 882, 883, 884, 885, 886, 887, 888, 889, 890, 891] rfl (by decide +kernel)
set_option maxRecDepth 20000 in
theorem gL_law_X6_value : GoodIn wsL_law (wsV RL 102 RX6 yX6_value wsX6_value) := goodIn_app (goodIn_of _ (by decide +kernel)) ggL_law_X6_value
set_option maxRecDepth 20000 in
theorem ggL_law_L_setCurve : GoodIn wsL_law wsL_setCurve := goodIn_ca (goodIn_ca (goodIn_r _ [271, 272, 144, 273, 274, 275, 2, 276, 153, 154, 16, 21, 277, 278, 279, 280, 281, 150, 151, 152, 155, 156, 157, 282, 283, 284, 34, 285, 49, 50, 158, 159, 160, 20, 161, 162, 86, 163, 164, 165, 166, 167, 168, 169, 15, 170, 31, 40, 41, 42, 43, 35, 39, 60, 61, 63, 64, 65, 66, 67, 68, 69, 70, 71, 72, 73, 74, 75, 171, 172, 173, 174, 175, 176, 177, 178, 38, 179, 55, 180, 80, 286, 287, 288, 289, 878, 879, 880, 881, 892, 893, 894, 895, 896, 897, 898, 899, 900, 901, 902, 903, 904, 905, 906, 907, 908, 909, 919, 920, 910, 911, 921, 922] rfl (by decide +kernel)) (goodIn_sub (fun _ h => List.mem_append_left _ (List.mem_append_left _ (List.mem_append_right _ h))) (by decide +kernel))) (goodIn_sub (fun _ h => List.mem_append_left _ (List.mem_append_right _ h)) (by decide +kernel))
set_option maxRecDepth 20000 in
theorem gL_law_L_setCurve : GoodIn wsL_law (va_wsS RL 103 yL_setCurve wsL_setCurve) := goodIn_app (goodIn_of _ (by decide +kernel)) ggL_law_L_setCurve
set_option maxRecDepth 20000 in
theorem ggL_law_X6_setCurve : GoodIn wsL_law wsX6_setCurve := goodIn_r _ [293, 106, 116, 105, 98, 200, 201, 5, 202, 294, 295, 296, 297, 203, 204, 205, 206, 207, 208, 209, 210, 211, 212, 99, 882, 883, 884, 885, 886, 887, 888, 889, 890, 891] rfl (by decide +kernel)
set_option maxRecDepth 20000 in
theorem gL_law_X6_setCurve : GoodIn wsL_law (wsV RL 106 RX6 yX6_setCurve wsX6_setCurve) := goodIn_app (goodIn_of _ (by decide +kernel)) ggL_law_X6_setCurve
set_option maxRecDepth 20000 in
theorem ggL_law_L_curve : GoodIn wsL_law wsL_curve := goodIn_ca (goodIn_r _ [300, 272, 301, 302, 303, 2, 304, 16, 277, 278, 279, 280, 281, 878, 879, 880, 881, 892, 893, 894, 895, 896, 897, 898, 899, 900, 901, 902, 903, 904, 905, 906, 907, 908, 909, 919, 920] rfl (by decide +kernel)) (goodIn_sub (fun _ h => List.mem_append_left _ (List.mem_append_right _ h)) (by decide +kernel))
set_option maxRecDepth 20000 in
theorem gL_law_L_curve : GoodIn wsL_law (va_wsS RL 107 yL_curve wsL_curve) := goodIn_app (goodIn_of _ (by decide +kernel)) ggL_law_L_curve
set_option maxRecDepth 20000 in
theorem ggL_law_X6_curve : GoodIn wsL_law wsX6_curve := goodIn_r _ [308, 106, 98, 200, 201, 5, 202, 203, 204, 205, 206, 207, 882, 883, 884, 885, 886, 887, 888, 889, 890, 891] rfl (by decide +kernel)
set_option maxRecDepth 20000 in
theorem gL_law_X6_curve : GoodIn wsL_law (wsV RL 110 RX6 yX6_curve wsX6_curve) := goodIn_app (goodIn_of _ (by decide +kernel)) ggL_law_X6_curve
set_option maxRecDepth 20000 in
theorem ggL_law_L_measure : GoodIn wsL_law wsL_measure := goodIn_ca (goodIn_r _ [311, 144, 312, 313, 314, 2, 315, 21, 16, 316, 317, 318, 153, 154, 319, 320, 321, 322, 323, 155, 156, 157, 158, 159, 160, 20, 161, 162, 86, 163, 164, 165, 166, 167, 168, 169, 15, 170, 31, 40, 41, 42, 43, 35, 39, 60, 61, 63, 64, 65, 66, 67, 68, 69, 70, 71, 72, 73, 74, 75, 171, 172, 173, 34, 174, 49, 175, 50, 176, 177, 178, 38, 179, 55, 180, 80, 324, 325, 326, 327, 328, 329, 330, 331, 332, 333, 232, 334, 335, 336, 337, 338, 339, 340, 341, 342, 343, 344, 345, 231, 233, 346, 347, 348, 349, 350, 351, 352, 353, 354, 355, 356, 357, 358, 234, 235, 236, 237, 238, 359, 360, 361, 362, 363, 364, 365, 366, 367, 368, 369, 370, 371, 372, 373, 374, 375, 376, 377, 378, 379, 380, 381, 382, 383, 384, 385, 386, 387, 388, 389, 390, 391, 230, 392, 393, 394, 395, 194, 62, 396, 397, 398, 182, 183, 184, 399, 400, 401, 402, 403, 404, 405, 406, 407, 408, 409, 410, 190, 191, 192, 193, 411, 412, 413, 414, 415, 416, 417, 418, 419, 420, 421, 422, 878, 879, 880, 881, 910, 911, 892, 893, 894, 895, 896, 897, 898, 899, 900, 901, 902, 903, 904, 905, 906, 907, 908, 909, 919, 920, 921, 922] rfl (by decide +kernel)) (goodIn_sub (fun _ h => List.mem_append_left _ (List.mem_append_left _ (List.mem_append_right _ h))) (by decide +kernel))
set_option maxRecDepth 20000 in
theorem gL_law_L_measure : GoodIn wsL_law (va_wsS RL 111 yL_measure wsL_measure) := goodIn_app (goodIn_of _ (by decide +kernel)) ggL_law_L_measure
set_option maxRecDepth 20000 in
theorem ggL_law_X6_measure : GoodIn wsL_law wsX6_measure := goodIn_r _ [426, 427, 428, 5, 429, 430, 431, 432, 433, 200, 201, 202, 203, 204, 205, 206, 207, 208, 209, 210, 211, 212, 99, 98, 434, 435, 436, 437, 438, 136, 439, 440, 441, 442, 248, 443, 444, 445, 446, 447, 448, 449, 450, 451, 452, 453, 254, 255, 256, 257, 112, 454, 455, 456, 457, 458, 459, 460, 461, 462, 463, 464, 465, 466, 467, 468, 469, 470, 471, 472, 473, 474, 475, 476, 477, 478, 108, 479, 480, 137, 138, 139, 250, 251, 252, 253, 481, 482, 483, 484, 115, 882, 883, 884, 885, 886, 887, 888, 889, 890, 891] rfl (by decide +kernel)
set_option maxRecDepth 20000 in
theorem gL_law_X6_measure : GoodIn wsL_law (wsV RL 113 RX6 yX6_measure wsX6_measure) := goodIn_app (goodIn_of _ (by decide +kernel)) ggL_law_X6_measure
set_option maxRecDepth 20000 in
theorem ggL_law_L_repeat : GoodIn wsL_law wsL_repeat := goodIn_ca (goodIn_r _ [487, 144, 488, 489, 490, 2, 491, 21, 16, 316, 317, 318, 153, 154, 319, 320, 321, 322, 323, 155, 156, 157, 150, 151, 152, 158, 159, 160, 20, 161, 162, 86, 163, 164, 165, 166, 167, 168, 169, 15, 170, 31, 40, 41, 42, 43, 35, 39, 60, 61, 63, 64, 65, 66, 67, 68, 69, 70, 71, 72, 73, 74, 75, 171, 172, 173, 34, 174, 49, 175, 50, 176, 177, 178, 38, 179, 55, 180, 80, 324, 325, 326, 327, 328, 329, 330, 331, 332, 333, 232, 334, 335, 336, 337, 338, 339, 340, 341, 342, 343, 344, 345, 231, 233, 346, 347, 348, 349, 350, 351, 352, 353, 354, 355, 356, 357, 358, 234, 235, 236, 237, 238, 359, 360, 361, 362, 363, 364, 365, 366, 367, 368, 369, 370, 371, 372, 373, 374, 375, 376, 377, 378, 379, 380, 381, 382, 383, 384, 385, 386, 387, 388, 389, 390, 391, 230, 392, 393, 394, 395, 194, 62, 396, 397, 398, 182, 183, 184, 399, 400, 401, 402, 403, 404, 405, 406, 407, 408, 409, 410, 190, 191, 192, 193, 411, 412, 413, 414, 415, 416, 417, 418, 419, 420, 421, 422, 492, 493, 494, 495, 496, 497, 498, 878, 879, 880, 881, 910, 911, 892, 893, 894, 895, 896, 897, 898, 899, 900, 901, 902, 903, 904, 905, 906, 907, 908, 909, 919, 920, 921, 922] rfl (by decide +kernel)) (goodIn_sub (fun _ h => List.mem_append_left _ (List.mem_append_left _ (List.mem_append_right _ h))) (by decide +kernel))
set_option maxRecDepth 20000 in
theorem gL_law_L_repeat : GoodIn wsL_law (va_wsS RL 114 yL_repeat wsL_repeat) := goodIn_app (goodIn_of _ (by decide +kernel)) ggL_law_L_repeat
set_option maxRecDepth 20000 in
theorem ggL_law_X6_repeat : GoodIn wsL_law wsX6_repeat := goodIn_r _ [502, 104, 474, 427, 428, 5, 429, 430, 431, 432, 433, 200, 201, 202, 203, 204, 205, 206, 207, 208, 209, 210, 211, 212, 99, 98, 434, 435, 436, 437, 438, 136, 439, 440, 441, 442, 248, 443, 444, 445, 446, 447, 448, 449, 450, 451, 452, 453, 254, 255, 256, 257, 112, 454, 455, 456, 457, 458, 459, 460, 461, 462, 463, 464, 465, 466, 467, 468, 469, 470, 471, 472, 473, 475, 476, 477, 478, 108, 479, 480, 137, 138, 139, 250, 251, 252, 253, 481, 482, 483, 484, 115, 882, 883, 884, 885, 886, 887, 888, 889, 890, 891] rfl (by decide +kernel)
set_option maxRecDepth 20000 in
theorem gL_law_X6_repeat : GoodIn wsL_law (wsV RL 117 RX6 yX6_repeat wsX6_repeat) := goodIn_app (goodIn_of _ (by decide +kernel)) ggL_law_X6_repeat
set_option maxRecDepth 20000 in
theorem ggL_law_L_simulate : GoodIn wsL_law wsL_simulate := goodIn_ca (goodIn_r _ [505, 144, 506, 507, 508, 2, 509, 21, 16, 510, 511, 512, 316, 317, 318, 153, 154, 319, 320, 321, 322, 323, 155, 156, 157, 150, 151, 152, 158, 159, 160, 20, 161, 162, 86, 163, 164, 165, 166, 167, 168, 169, 15, 170, 31, 40, 41, 42, 43, 35, 39, 60, 61, 63, 64, 65, 66, 67, 68, 69, 70, 71, 72, 73, 74, 75, 171, 172, 173, 34, 174, 49, 175, 50, 176, 177, 178, 38, 179, 55, 180, 80, 513, 514, 515, 516, 517, 518, 519, 520, 521, 194, 366, 367, 368, 369, 339, 234, 235, 236, 237, 238, 522, 375, 376, 377, 378, 379, 380, 381, 382, 232, 383, 384, 385, 386, 523, 524, 409, 525, 340, 341, 342, 343, 344, 345, 231, 233, 324, 325, 326, 327, 328, 329, 330, 331, 332, 333, 334, 335, 336, 337, 338, 346, 347, 348, 349, 350, 351, 352, 353, 354, 355, 356, 357, 358, 359, 360, 361, 362, 363, 364, 365, 370, 371, 372, 373, 374, 387, 388, 389, 390, 391, 230, 392, 393, 394, 395, 62, 396, 397, 398, 182, 183, 184, 399, 400, 401, 402, 403, 404, 405, 406, 407, 408, 410, 190, 191, 192, 193, 411, 412, 413, 414, 415, 416, 417, 418, 419, 420, 421, 422, 492, 493, 494, 495, 496, 497, 498, 878, 879, 880, 881, 910, 911, 892, 893, 894, 895, 896, 897, 898, 899, 900, 901, 902, 903, 904, 905, 906, 907, 908, 909, 919, 920, 921, 922] rfl (by decide +kernel)) (goodIn_sub (fun _ h => List.mem_append_left _ (List.mem_append_left _ (List.mem_append_right _ h))) (by decide +kernel))
set_option maxRecDepth 20000 in
theorem gL_law_L_simulate : GoodIn wsL_law (va_wsS RL 118 yL_simulate wsL_simulate) := goodIn_app (goodIn_of _ (by decide +kernel)) ggL_law_L_simulate
set_option maxRecDepth 20000 in
theorem ggL_law_X6_simulate : GoodIn wsL_law wsX6_simulate := goodIn_r _ [529, 474, 530, 531, 5, 532, 248, 104, 427, 428, 429, 430, 431, 432, 433, 200, 201, 202, 203, 204, 205, 206, 207, 208, 209, 210, 211, 212, 99, 98, 533, 534, 535, 536, 537, 538, 539, 540, 136, 454, 455, 456, 457, 254, 255, 256, 257, 112, 462, 463, 464, 465, 466, 467, 468, 469, 137, 138, 139, 451, 452, 453, 434, 435, 436, 437, 438, 439, 440, 441, 442, 443, 444, 445, 446, 447, 448, 449, 450, 458, 459, 460, 461, 470, 471, 472, 473, 475, 476, 477, 478, 108, 479, 480, 250, 251, 252, 253, 481, 482, 483, 484, 115, 882, 883, 884, 885, 886, 887, 888, 889, 890, 891] rfl (by decide +kernel)
set_option maxRecDepth 20000 in
theorem gL_law_X6_simulate : GoodIn wsL_law (wsV RL 120 RX6 yX6_simulate wsX6_simulate) := goodIn_app (goodIn_of _ (by decide +kernel)) ggL_law_X6_simulate
set_option maxRecDepth 20000 in
theorem ggL_law_L_charge : GoodIn wsL_law wsL_charge := goodIn_ca (goodIn_r _ [543, 144, 544, 545, 546, 2, 547, 16, 150, 151, 152, 153, 154, 155, 156, 157, 548, 549, 550, 15, 551, 63, 64, 65, 61, 60, 66, 68, 878, 879, 880, 881, 892, 893, 894, 895, 896, 897, 898, 899, 900, 901, 902, 903, 904, 905, 906, 907, 908, 909] rfl (by decide +kernel)) (goodIn_sub (fun _ h => List.mem_append_left _ (List.mem_append_left _ (List.mem_append_right _ h))) (by decide +kernel))
set_option maxRecDepth 20000 in
theorem gL_law_L_charge : GoodIn wsL_law (va_wsS RL 121 yL_charge wsL_charge) := goodIn_app (goodIn_of _ (by decide +kernel)) ggL_law_L_charge
set_option maxRecDepth 20000 in
theorem ggL_law_X6_charge : GoodIn wsL_law wsX6_charge := goodIn_r _ [555, 556, 98, 200, 201, 5, 202, 203, 204, 205, 206, 207, 882, 883, 884, 885, 886, 887, 888, 889, 890, 891] rfl (by decide +kernel)
set_option maxRecDepth 20000 in
theorem gL_law_X6_charge : GoodIn wsL_law (wsV RL 123 RX6 yX6_charge wsX6_charge) := goodIn_app (goodIn_of _ (by decide +kernel)) ggL_law_X6_charge
set_option maxRecDepth 20000 in
theorem ggL_law_L_soc : GoodIn wsL_law wsL_soc := goodIn_ca (goodIn_r _ [559, 144, 560, 561, 562, 2, 563, 16, 150, 151, 152, 153, 154, 155, 156, 157, 548, 549, 550, 15, 551, 63, 64, 65, 61, 60, 66, 68, 564, 519, 520, 521, 194, 878, 879, 880, 881, 892, 893, 894, 895, 896, 897, 898, 899, 900, 901, 902, 903, 904, 905, 906, 907, 908, 909] rfl (by decide +kernel)) (goodIn_sub (fun _ h => List.mem_append_left _ (List.mem_append_left _ (List.mem_append_right _ h))) (by decide +kernel))
set_option maxRecDepth 20000 in
theorem gL_law_L_soc : GoodIn wsL_law (va_wsS RL 124 yL_soc wsL_soc) := goodIn_app (goodIn_of _ (by decide +kernel)) ggL_law_L_soc
set_option maxRecDepth 20000 in
theorem ggL_law_X6_soc : GoodIn wsL_law wsX6_soc := goodIn_r _ [568, 108, 200, 201, 5, 202, 203, 204, 205, 206, 207, 537, 538, 539, 540, 98, 136, 882, 883, 884, 885, 886, 887, 888, 889, 890, 891] rfl (by decide +kernel)
set_option maxRecDepth 20000 in
theorem gL_law_X6_soc : GoodIn wsL_law (wsV RL 126 RX6 yX6_soc wsX6_soc) := goodIn_app (goodIn_of _ (by decide +kernel)) ggL_law_X6_soc
set_option maxRecDepth 20000 in
theorem ggL_law_L_status : GoodIn wsL_law wsL_status := goodIn_ca (goodIn_r _ [571, 144, 572, 573, 574, 2, 575, 16, 150, 151, 152, 153, 154, 155, 156, 157, 576, 577, 578, 15, 579, 70, 71, 72, 73, 69, 366, 367, 368, 369, 66, 339, 234, 235, 236, 237, 61, 31, 238, 878, 879, 880, 881, 892, 893, 894, 895, 896, 897, 898, 899, 900, 901, 902, 903, 904, 905, 906, 907, 908, 909] rfl (by decide +kernel)) (goodIn_sub (fun _ h => List.mem_append_left _ (List.mem_append_left _ (List.mem_append_right _ h))) (by decide +kernel))
set_option maxRecDepth 20000 in
theorem gL_law_L_status : GoodIn wsL_law (va_wsS RL 127 yL_status wsL_status) := goodIn_app (goodIn_of _ (by decide +kernel)) ggL_law_L_status
set_option maxRecDepth 20000 in
theorem ggL_law_X6_status : GoodIn wsL_law wsX6_status := goodIn_r _ [583, 110, 200, 201, 5, 202, 203, 204, 205, 206, 207, 584, 585, 586, 587, 98, 454, 455, 456, 457, 248, 254, 255, 256, 257, 112, 882, 883, 884, 885, 886, 887, 888, 889, 890, 891] rfl (by decide +kernel)
set_option maxRecDepth 20000 in
theorem gL_law_X6_status : GoodIn wsL_law (wsV RL 129 RX6 yX6_status wsX6_status) := goodIn_app (goodIn_of _ (by decide +kernel)) ggL_law_X6_status
set_option maxRecDepth 20000 in
theorem ggL_law_X5_throughput : GoodIn wsL_law wsX5_throughput := goodIn_r _ [591, 16, 878, 879, 880, 881, 892, 893, 894, 895, 896, 897, 898, 899, 900, 901, 902, 903, 904, 905, 906, 907, 908, 909] rfl (by decide +kernel)
set_option maxRecDepth 20000 in
theorem gL_law_X5_throughput : GoodIn wsL_law (wsV RL 130 RX5 yX5_throughput wsX5_throughput) := goodIn_app (goodIn_of _ (by decide +kernel)) ggL_law_X5_throughput
set_option maxRecDepth 20000 in
theorem ggL_law_X6_throughput : GoodIn wsL_law wsX6_throughput := goodIn_r _ [595, 207, 98, 882, 883, 884, 885, 886, 887, 888, 889, 890, 891] rfl (by decide +kernel)
set_option maxRecDepth 20000 in
theorem gL_law_X6_throughput : GoodIn wsL_law (wsV RL 134 RX6 yX6_throughput wsX6_throughput) := goodIn_app (goodIn_of _ (by decide +kernel)) ggL_law_X6_throughput
set_option maxRecDepth 20000 in
theorem ggL_law_X5_cycles : GoodIn wsL_law wsX5_cycles := goodIn_r _ [599, 600, 16, 878, 879, 880, 881, 892, 893, 894, 895, 896, 897, 898, 899, 900, 901, 902, 903, 904, 905, 906, 907, 908, 909] rfl (by decide +kernel)
set_option maxRecDepth 20000 in
theorem gL_law_X5_cycles : GoodIn wsL_law (wsV RL 135 RX5 yX5_cycles wsX5_cycles) := goodIn_app (goodIn_of _ (by decide +kernel)) ggL_law_X5_cycles
set_option maxRecDepth 20000 in
theorem ggL_law_X6_cycles : GoodIn wsL_law wsX6_cycles := goodIn_r _ [604, 207, 98, 108, 882, 883, 884, 885, 886, 887, 888, 889, 890, 891] rfl (by decide +kernel)
set_option maxRecDepth 20000 in
theorem gL_law_X6_cycles : GoodIn wsL_law (wsV RL 139 RX6 yX6_cycles wsX6_cycles) := goodIn_app (goodIn_of _ (by decide +kernel)) ggL_law_X6_cycles
set_option maxRecDepth 20000 in
theorem ggL_law_X5_healthBits : GoodIn wsL_law wsX5_healthBits := goodIn_r _ [608, 16, 609, 610, 2, 611, 612, 878, 879, 880, 881, 892, 893, 894, 895, 896, 897, 898, 899, 900, 901, 902, 903, 904, 905, 906, 907, 908, 909] rfl (by decide +kernel)
set_option maxRecDepth 20000 in
theorem gL_law_X5_healthBits : GoodIn wsL_law (wsV RL 140 RX5 yX5_healthBits wsX5_healthBits) := goodIn_app (goodIn_of _ (by decide +kernel)) ggL_law_X5_healthBits
set_option maxRecDepth 20000 in
theorem ggL_law_X6_healthBits : GoodIn wsL_law wsX6_healthBits := goodIn_r _ [616, 207, 98, 617, 618, 619, 620, 621, 622, 623, 624, 625, 626, 627, 628, 882, 883, 884, 885, 886, 887, 888, 889, 890, 891] rfl (by decide +kernel)
set_option maxRecDepth 20000 in
theorem gL_law_X6_healthBits : GoodIn wsL_law (wsV RL 143 RX6 yX6_healthBits wsX6_healthBits) := goodIn_app (goodIn_of _ (by decide +kernel)) ggL_law_X6_healthBits
set_option maxRecDepth 20000 in
theorem ggL_law_L_openVoltage : GoodIn wsL_law wsL_openVoltage := goodIn_ca (goodIn_r _ [631, 144, 632, 633, 634, 2, 635, 16, 150, 151, 152, 153, 154, 155, 156, 157, 636, 375, 376, 34, 377, 49, 50, 378, 379, 380, 381, 382, 232, 383, 384, 385, 386, 878, 879, 880, 881, 892, 893, 894, 895, 896, 897, 898, 899, 900, 901, 902, 903, 904, 905, 906, 907, 908, 909, 919, 920] rfl (by decide +kernel)) (goodIn_sub (fun _ h => List.mem_append_left _ (List.mem_append_left _ (List.mem_append_right _ h))) (by decide +kernel))
set_option maxRecDepth 20000 in
theorem gL_law_L_openVoltage : GoodIn wsL_law (va_wsS RL 144 yL_openVoltage wsL_openVoltage) := goodIn_app (goodIn_of _ (by decide +kernel)) ggL_law_L_openVoltage
set_option maxRecDepth 20000 in
theorem ggL_law_X6_openVoltage : GoodIn wsL_law wsX6_openVoltage := goodIn_r _ [640, 136, 248, 200, 201, 5, 202, 203, 204, 205, 206, 207, 462, 463, 464, 465, 466, 467, 468, 469, 98, 882, 883, 884, 885, 886, 887, 888, 889, 890, 891] rfl (by decide +kernel)
set_option maxRecDepth 20000 in
theorem gL_law_X6_openVoltage : GoodIn wsL_law (wsV RL 146 RX6 yX6_openVoltage wsX6_openVoltage) := goodIn_app (goodIn_of _ (by decide +kernel)) ggL_law_X6_openVoltage
set_option maxRecDepth 20000 in
theorem ggL_law_L_invert : GoodIn wsL_law wsL_invert := goodIn_ca (goodIn_r _ [643, 144, 644, 645, 646, 2, 647, 16, 150, 151, 152, 153, 154, 155, 156, 157, 648, 371, 372, 34, 373, 374, 375, 376, 377, 49, 50, 378, 379, 380, 381, 382, 232, 383, 384, 385, 386, 878, 879, 880, 881, 892, 893, 894, 895, 896, 897, 898, 899, 900, 901, 902, 903, 904, 905, 906, 907, 908, 909, 919, 920] rfl (by decide +kernel)) (goodIn_sub (fun _ h => List.mem_append_left _ (List.mem_append_left _ (List.mem_append_right _ h))) (by decide +kernel))
set_option maxRecDepth 20000 in
theorem gL_law_L_invert : GoodIn wsL_law (va_wsS RL 147 yL_invert wsL_invert) := goodIn_app (goodIn_of _ (by decide +kernel)) ggL_law_L_invert
set_option maxRecDepth 20000 in
theorem ggL_law_X6_invert : GoodIn wsL_law wsX6_invert := goodIn_r _ [652, 432, 248, 200, 201, 5, 202, 203, 204, 205, 206, 207, 458, 459, 460, 461, 462, 463, 464, 465, 466, 467, 468, 469, 98, 882, 883, 884, 885, 886, 887, 888, 889, 890, 891] rfl (by decide +kernel)
set_option maxRecDepth 20000 in
theorem gL_law_X6_invert : GoodIn wsL_law (wsV RL 149 RX6 yX6_invert wsX6_invert) := goodIn_app (goodIn_of _ (by decide +kernel)) ggL_law_X6_invert
set_option maxRecDepth 20000 in
theorem ggL_law_X5_anchors : GoodIn wsL_law wsX5_anchors := goodIn_r _ [656, 16, 181, 182, 183, 38, 184, 80, 878, 879, 880, 881, 892, 893, 894, 895, 896, 897, 898, 899, 900, 901, 902, 903, 904, 905, 906, 907, 908, 909, 921, 922] rfl (by decide +kernel)
set_option maxRecDepth 20000 in
theorem gL_law_X5_anchors : GoodIn wsL_law (wsV RL 150 RX5 yX5_anchors wsX5_anchors) := goodIn_app (goodIn_of _ (by decide +kernel)) ggL_law_X5_anchors
set_option maxRecDepth 20000 in
theorem ggL_law_X6_anchors : GoodIn wsL_law wsX6_anchors := goodIn_r _ [660, 207, 98, 882, 883, 884, 885, 886, 887, 888, 889, 890, 891] rfl (by decide +kernel)
set_option maxRecDepth 20000 in
theorem gL_law_X6_anchors : GoodIn wsL_law (wsV RL 153 RX6 yX6_anchors wsX6_anchors) := goodIn_app (goodIn_of _ (by decide +kernel)) ggL_law_X6_anchors
set_option maxRecDepth 20000 in
theorem ggL_law_L_anchor : GoodIn wsL_law wsL_anchor := goodIn_ca (goodIn_ca (goodIn_r _ [663, 272, 144, 664, 665, 666, 2, 667, 280, 281, 16, 181, 182, 183, 38, 184, 80, 150, 151, 152, 153, 154, 155, 156, 157, 668, 404, 405, 406, 55, 878, 879, 880, 881, 892, 893, 894, 895, 896, 897, 898, 899, 900, 901, 902, 903, 904, 905, 906, 907, 908, 909, 921, 922] rfl (by decide +kernel)) (goodIn_sub (fun _ h => List.mem_append_left _ (List.mem_append_right _ h)) (by decide +kernel))) (goodIn_sub (fun _ h => List.mem_append_left _ (List.mem_append_left _ (List.mem_append_right _ h))) (by decide +kernel))
set_option maxRecDepth 20000 in
theorem gL_law_L_anchor : GoodIn wsL_law (va_wsS RL 154 yL_anchor wsL_anchor) := goodIn_app (goodIn_of _ (by decide +kernel)) ggL_law_L_anchor
set_option maxRecDepth 20000 in
theorem ggL_law_X6_anchor : GoodIn wsL_law wsX6_anchor := goodIn_r _ [672, 98, 479, 200, 201, 5, 202, 203, 204, 205, 206, 207, 882, 883, 884, 885, 886, 887, 888, 889, 890, 891] rfl (by decide +kernel)
set_option maxRecDepth 20000 in
theorem gL_law_X6_anchor : GoodIn wsL_law (wsV RL 156 RX6 yX6_anchor wsX6_anchor) := goodIn_app (goodIn_of _ (by decide +kernel)) ggL_law_X6_anchor
set_option maxRecDepth 20000 in
theorem ggL_law_L_boundAfter : GoodIn wsL_law wsL_boundAfter := goodIn_ca (goodIn_r _ [675, 144, 676, 677, 678, 2, 679, 322, 323, 680, 16, 150, 151, 152, 153, 154, 155, 156, 157, 681, 356, 357, 15, 358, 65, 61, 335, 336, 337, 338, 31, 339, 350, 351, 352, 353, 332, 333, 232, 334, 354, 340, 341, 342, 343, 344, 345, 231, 233, 682, 347, 348, 349, 64, 878, 879, 880, 881, 892, 893, 894, 895, 896, 897, 898, 899, 900, 901, 902, 903, 904, 905, 906, 907, 908, 909] rfl (by decide +kernel)) (goodIn_sub (fun _ h => List.mem_append_left _ (List.mem_append_left _ (List.mem_append_right _ h))) (by decide +kernel))
set_option maxRecDepth 20000 in
theorem gL_law_L_boundAfter : GoodIn wsL_law (va_wsS RL 157 yL_boundAfter wsL_boundAfter) := goodIn_app (goodIn_of _ (by decide +kernel)) ggL_law_L_boundAfter
set_option maxRecDepth 20000 in
theorem ggL_law_X6_boundAfter : GoodIn wsL_law wsX6_boundAfter := goodIn_r _ [686, 430, 431, 447, 200, 201, 5, 202, 203, 204, 205, 206, 207, 687, 688, 689, 690, 98, 439, 440, 441, 442, 248, 443, 444, 445, 446, 448, 449, 450, 451, 452, 453, 882, 883, 884, 885, 886, 887, 888, 889, 890, 891] rfl (by decide +kernel)
set_option maxRecDepth 20000 in
theorem gL_law_X6_boundAfter : GoodIn wsL_law (wsV RL 160 RX6 yX6_boundAfter wsX6_boundAfter) := goodIn_app (goodIn_of _ (by decide +kernel)) ggL_law_X6_boundAfter
set_option maxRecDepth 20000 in
theorem ggL_law_L_reaches : GoodIn wsL_law wsL_reaches := goodIn_ca (goodIn_r _ [693, 144, 694, 695, 696, 2, 697, 153, 154, 322, 323, 16, 680, 150, 151, 152, 155, 156, 157, 698, 699, 700, 15, 701, 702, 346, 347, 348, 349, 64, 61, 335, 336, 337, 338, 31, 339, 350, 351, 352, 353, 332, 333, 232, 334, 354, 340, 341, 342, 343, 344, 345, 231, 233, 703, 704, 705, 706, 355, 356, 357, 358, 65, 878, 879, 880, 881, 892, 893, 894, 895, 896, 897, 898, 899, 900, 901, 902, 903, 904, 905, 906, 907, 908, 909] rfl (by decide +kernel)) (goodIn_sub (fun _ h => List.mem_append_left _ (List.mem_append_left _ (List.mem_append_right _ h))) (by decide +kernel))
set_option maxRecDepth 20000 in
theorem gL_law_L_reaches : GoodIn wsL_law (va_wsS RL 161 yL_reaches wsL_reaches) := goodIn_app (goodIn_of _ (by decide +kernel)) ggL_law_L_reaches
set_option maxRecDepth 20000 in
theorem ggL_law_X6_reaches : GoodIn wsL_law wsX6_reaches := goodIn_r _ [710, 430, 431, 447, 711, 200, 201, 5, 202, 203, 204, 205, 206, 207, 712, 713, 714, 715, 98, 687, 688, 689, 690, 439, 440, 441, 442, 248, 443, 444, 445, 446, 448, 449, 450, 451, 452, 453, 882, 883, 884, 885, 886, 887, 888, 889, 890, 891] rfl (by decide +kernel)
set_option maxRecDepth 20000 in
theorem gL_law_X6_reaches : GoodIn wsL_law (wsV RL 163 RX6 yX6_reaches wsX6_reaches) := goodIn_app (goodIn_of _ (by decide +kernel)) ggL_law_X6_reaches
set_option maxRecDepth 20000 in
theorem ggL_law_L_lasts : GoodIn wsL_law wsL_lasts := goodIn_ca (goodIn_r _ [718, 144, 719, 720, 721, 2, 722, 322, 16, 150, 151, 152, 153, 154, 155, 156, 157, 723, 191, 192, 15, 193, 61, 194, 698, 699, 700, 701, 702, 346, 347, 348, 349, 64, 335, 336, 337, 338, 31, 339, 350, 351, 352, 353, 332, 333, 232, 334, 354, 340, 341, 342, 343, 344, 345, 231, 233, 878, 879, 880, 881, 892, 893, 894, 895, 896, 897, 898, 899, 900, 901, 902, 903, 904, 905, 906, 907, 908, 909] rfl (by decide +kernel)) (goodIn_sub (fun _ h => List.mem_append_left _ (List.mem_append_left _ (List.mem_append_right _ h))) (by decide +kernel))
set_option maxRecDepth 20000 in
theorem gL_law_L_lasts : GoodIn wsL_law (va_wsS RL 164 yL_lasts wsL_lasts) := goodIn_app (goodIn_of _ (by decide +kernel)) ggL_law_L_lasts
set_option maxRecDepth 20000 in
theorem ggL_law_X6_lasts : GoodIn wsL_law wsX6_lasts := goodIn_r _ [727, 430, 117, 136, 98, 728, 200, 201, 5, 202, 203, 204, 205, 206, 207, 687, 688, 689, 690, 439, 440, 441, 442, 248, 443, 444, 445, 446, 447, 448, 449, 450, 451, 452, 453, 882, 883, 884, 885, 886, 887, 888, 889, 890, 891] rfl (by decide +kernel)
set_option maxRecDepth 20000 in
theorem gL_law_X6_lasts : GoodIn wsL_law (wsV RL 166 RX6 yX6_lasts wsX6_lasts) := goodIn_app (goodIn_of _ (by decide +kernel)) ggL_law_X6_lasts
set_option maxRecDepth 20000 in
theorem ggL_law_L_wouldAnchor : GoodIn wsL_law wsL_wouldAnchor := goodIn_ca (goodIn_r _ [731, 144, 732, 733, 734, 2, 735, 17, 16, 510, 511, 512, 316, 317, 318, 153, 154, 319, 320, 321, 322, 323, 155, 156, 157, 150, 151, 152, 736, 168, 169, 15, 170, 31, 40, 41, 42, 43, 35, 39, 60, 61, 63, 64, 65, 66, 67, 68, 69, 70, 71, 72, 73, 74, 75, 171, 172, 173, 34, 174, 49, 175, 50, 176, 177, 178, 38, 179, 55, 180, 80, 513, 514, 515, 516, 517, 518, 519, 520, 521, 194, 366, 367, 368, 369, 339, 234, 235, 236, 237, 238, 522, 375, 376, 377, 378, 379, 380, 381, 382, 232, 383, 384, 385, 386, 523, 524, 409, 525, 340, 341, 342, 343, 344, 345, 231, 233, 324, 325, 326, 327, 328, 329, 330, 331, 332, 333, 334, 335, 336, 337, 338, 346, 347, 348, 349, 350, 351, 352, 353, 354, 355, 356, 357, 358, 359, 360, 361, 362, 363, 364, 365, 370, 371, 372, 373, 374, 387, 388, 389, 390, 391, 230, 392, 393, 394, 395, 62, 396, 397, 398, 182, 183, 184, 399, 400, 401, 402, 403, 404, 405, 406, 407, 408, 410, 190, 191, 192, 193, 411, 412, 413, 414, 415, 416, 417, 418, 419, 420, 421, 422, 878, 879, 880, 881, 892, 893, 894, 895, 896, 897, 898, 899, 900, 901, 902, 903, 904, 905, 906, 907, 908, 909, 919, 920, 921, 922] rfl (by decide +kernel)) (goodIn_sub (fun _ h => List.mem_append_left _ (List.mem_append_left _ (List.mem_append_right _ h))) (by decide +kernel))
set_option maxRecDepth 20000 in
theorem gL_law_L_wouldAnchor : GoodIn wsL_law (va_wsS RL 167 yL_wouldAnchor wsL_wouldAnchor) := goodIn_app (goodIn_of _ (by decide +kernel)) ggL_law_L_wouldAnchor
set_option maxRecDepth 20000 in
theorem ggL_law_X6_wouldAnchor : GoodIn wsL_law wsX6_wouldAnchor := goodIn_r _ [740, 100, 98, 530, 531, 5, 532, 248, 104, 427, 428, 429, 430, 431, 432, 433, 200, 201, 202, 203, 204, 205, 206, 207, 533, 534, 535, 536, 474, 537, 538, 539, 540, 136, 454, 455, 456, 457, 254, 255, 256, 257, 112, 462, 463, 464, 465, 466, 467, 468, 469, 137, 138, 139, 451, 452, 453, 434, 435, 436, 437, 438, 439, 440, 441, 442, 443, 444, 445, 446, 447, 448, 449, 450, 458, 459, 460, 461, 470, 471, 472, 473, 475, 476, 477, 478, 108, 479, 480, 250, 251, 252, 253, 481, 482, 483, 484, 115, 882, 883, 884, 885, 886, 887, 888, 889, 890, 891] rfl (by decide +kernel)
set_option maxRecDepth 20000 in
theorem gL_law_X6_wouldAnchor : GoodIn wsL_law (wsV RL 169 RX6 yX6_wouldAnchor wsX6_wouldAnchor) := goodIn_app (goodIn_of _ (by decide +kernel)) ggL_law_X6_wouldAnchor
set_option maxRecDepth 20000 in
theorem ggL_law_L_append : GoodIn wsL_law wsL_append := goodIn_ca (goodIn_ca (goodIn_r _ [743, 144, 744, 745, 746, 747, 2, 748, 749, 750, 25, 150, 151, 152, 153, 154, 155, 156, 157, 751, 752, 753, 24, 754, 755, 756, 757, 758, 759, 92, 760, 761, 762, 763, 878, 879, 880, 881, 912, 913, 914, 915, 916, 917, 918] rfl (by decide +kernel)) (goodIn_sub (fun _ h => List.mem_append_right _ h) (by decide +kernel))) (goodIn_sub (fun _ h => List.mem_append_left _ (List.mem_append_left _ (List.mem_append_right _ h))) (by decide +kernel))
set_option maxRecDepth 20000 in
theorem gL_law_L_append : GoodIn wsL_law (va_wsS RL 170 yL_append wsL_append) := goodIn_app (goodIn_of _ (by decide +kernel)) ggL_law_L_append
set_option maxRecDepth 20000 in
theorem ggL_law_X6_append : GoodIn wsL_law wsX6_append := goodIn_r _ [767, 768, 769, 101, 200, 201, 5, 202, 203, 204, 205, 206, 207, 882, 883, 884, 885, 886, 887, 888, 889, 890, 891] rfl (by decide +kernel)
set_option maxRecDepth 20000 in
theorem gL_law_X6_append : GoodIn wsL_law (wsV RL 172 RX6 yX6_append wsX6_append) := goodIn_app (goodIn_of _ (by decide +kernel)) ggL_law_X6_append
set_option maxRecDepth 20000 in
theorem ggL_law_X5_clearText : GoodIn wsL_law wsX5_clearText := goodIn_r _ [773, 25, 760, 761, 762, 24, 763, 755, 774, 775, 776, 777, 878, 879, 880, 881, 912, 913, 914, 915, 916, 917, 918] rfl (by decide +kernel)
set_option maxRecDepth 20000 in
theorem gL_law_X5_clearText : GoodIn wsL_law (wsV RL 173 RX5 yX5_clearText wsX5_clearText) := goodIn_app (goodIn_of _ (by decide +kernel)) ggL_law_X5_clearText
set_option maxRecDepth 20000 in
theorem ggL_law_X6_clearText : GoodIn wsL_law wsX6_clearText := goodIn_r _ [781, 207, 769, 882, 883, 884, 885, 886, 887, 888, 889, 890, 891] rfl (by decide +kernel)
set_option maxRecDepth 20000 in
theorem gL_law_X6_clearText : GoodIn wsL_law (wsV RL 176 RX6 yX6_clearText wsX6_clearText) := goodIn_app (goodIn_of _ (by decide +kernel)) ggL_law_X6_clearText
set_option maxRecDepth 20000 in
theorem ggL_law_X5_replay : GoodIn wsL_law wsX5_replay := goodIn_r _ [785, 25, 21, 16, 786, 787, 788, 24, 789, 790, 755, 92, 791, 792, 793, 794, 795, 796, 797, 798, 799, 800, 801, 93, 802, 803, 804, 805, 806, 807, 808, 809, 319, 320, 2, 321, 322, 323, 155, 156, 157, 158, 159, 160, 20, 161, 162, 86, 163, 164, 165, 166, 167, 168, 169, 15, 170, 31, 40, 41, 42, 43, 35, 39, 60, 61, 63, 64, 65, 66, 67, 68, 69, 70, 71, 72, 73, 74, 75, 171, 172, 173, 34, 174, 49, 175, 50, 176, 177, 178, 38, 179, 55, 180, 80, 324, 325, 326, 327, 328, 329, 330, 331, 332, 333, 232, 334, 335, 336, 337, 338, 339, 340, 341, 342, 343, 344, 345, 231, 233, 346, 347, 348, 349, 350, 351, 352, 353, 354, 355, 356, 357, 358, 234, 235, 236, 237, 238, 359, 360, 361, 362, 363, 364, 365, 366, 367, 368, 369, 370, 371, 372, 373, 374, 375, 376, 377, 378, 379, 380, 381, 382, 383, 384, 385, 386, 387, 388, 389, 390, 391, 230, 392, 393, 394, 395, 194, 62, 396, 397, 398, 182, 183, 184, 399, 400, 401, 402, 403, 404, 405, 406, 407, 408, 409, 410, 190, 191, 192, 193, 411, 412, 413, 414, 415, 416, 417, 418, 419, 420, 421, 422, 878, 879, 880, 881, 912, 913, 914, 915, 916, 917, 918, 910, 911, 892, 893, 894, 895, 896, 897, 898, 899, 900, 901, 902, 903, 904, 905, 906, 907, 908, 909, 919, 920, 921, 922] rfl (by decide +kernel)
set_option maxRecDepth 20000 in
theorem gL_law_X5_replay : GoodIn wsL_law (wsV RL 177 RX5 yX5_replay wsX5_replay) := goodIn_app (goodIn_of _ (by decide +kernel)) ggL_law_X5_replay
set_option maxRecDepth 20000 in
theorem ggL_law_X6_replay : GoodIn wsL_law wsX6_replay := goodIn_r _ [813, 207, 814, 769, 102, 815, 816, 817, 5, 818, 101, 819, 820, 821, 822, 823, 824, 825, 826, 827, 828, 200, 201, 202, 427, 428, 429, 430, 431, 432, 433, 208, 209, 210, 211, 212, 99, 98, 434, 435, 436, 437, 438, 136, 439, 440, 441, 442, 248, 443, 444, 445, 446, 447, 448, 449, 450, 451, 452, 453, 254, 255, 256, 257, 112, 454, 455, 456, 457, 458, 459, 460, 461, 462, 463, 464, 465, 466, 467, 468, 469, 470, 471, 472, 473, 474, 475, 476, 477, 478, 108, 479, 480, 137, 138, 139, 250, 251, 252, 253, 481, 482, 483, 484, 115, 882, 883, 884, 885, 886, 887, 888, 889, 890, 891] rfl (by decide +kernel)
set_option maxRecDepth 20000 in
theorem gL_law_X6_replay : GoodIn wsL_law (wsV RL 180 RX6 yX6_replay wsX6_replay) := goodIn_app (goodIn_of _ (by decide +kernel)) ggL_law_X6_replay
set_option maxRecDepth 20000 in
theorem ggL_law_L_undo : GoodIn wsL_law wsL_undo := goodIn_ca (goodIn_r _ [831, 744, 832, 833, 834, 2, 835, 749, 750, 21, 16, 836, 837, 838, 20, 839, 162, 840, 841, 842, 843, 86, 167, 168, 169, 15, 170, 31, 40, 41, 42, 43, 35, 39, 60, 61, 63, 64, 65, 66, 67, 68, 69, 70, 71, 72, 73, 74, 75, 171, 172, 173, 34, 174, 49, 175, 50, 176, 177, 178, 38, 179, 55, 180, 80, 878, 879, 880, 881, 910, 911, 892, 893, 894, 895, 896, 897, 898, 899, 900, 901, 902, 903, 904, 905, 906, 907, 908, 909, 919, 920, 921, 922] rfl (by decide +kernel)) (goodIn_sub (fun _ h => List.mem_append_right _ h) (by decide +kernel))
set_option maxRecDepth 20000 in
theorem gL_law_L_undo : GoodIn wsL_law (va_wsS RL 181 yL_undo wsL_undo) := goodIn_app (goodIn_of _ (by decide +kernel)) ggL_law_L_undo
set_option maxRecDepth 20000 in
theorem ggL_law_X6_undo : GoodIn wsL_law wsX6_undo := goodIn_r _ [847, 212, 98, 99, 203, 204, 205, 5, 206, 207, 882, 883, 884, 885, 886, 887, 888, 889, 890, 891] rfl (by decide +kernel)
set_option maxRecDepth 20000 in
theorem gL_law_X6_undo : GoodIn wsL_law (wsV RL 184 RX6 yX6_undo wsX6_undo) := goodIn_app (goodIn_of _ (by decide +kernel)) ggL_law_X6_undo
set_option maxRecDepth 20000 in
theorem ggL_law_X5_digest : GoodIn wsL_law wsX5_digest := goodIn_r _ [851, 852, 25, 16, 21, 760, 761, 762, 24, 763, 755, 853, 854, 2, 855, 856, 857, 858, 859, 15, 860, 31, 35, 67, 861, 862, 863, 34, 864, 49, 50, 865, 549, 550, 551, 63, 64, 65, 61, 60, 66, 68, 866, 577, 578, 579, 70, 71, 72, 73, 69, 366, 367, 368, 369, 339, 234, 235, 236, 237, 238, 867, 868, 869, 38, 870, 80, 55, 871, 382, 232, 383, 836, 837, 838, 20, 839, 162, 878, 879, 880, 881, 892, 893, 894, 895, 896, 897, 898, 899, 900, 901, 902, 903, 904, 905, 906, 907, 908, 909, 912, 913, 914, 915, 916, 917, 918, 919, 920, 921, 922, 910, 911] rfl (by decide +kernel)
set_option maxRecDepth 20000 in
theorem gL_law_X5_digest : GoodIn wsL_law (wsV RL 185 RX5 yX5_digest wsX5_digest) := goodIn_app (goodIn_of _ (by decide +kernel)) ggL_law_X5_digest
set_option maxRecDepth 20000 in
theorem ggL_law_X6_digest : GoodIn wsL_law wsX6_digest := goodIn_r _ [875, 207, 876, 769, 877, 98, 480, 212, 584, 585, 586, 5, 587, 454, 455, 456, 457, 248, 254, 255, 256, 257, 112, 882, 883, 884, 885, 886, 887, 888, 889, 890, 891] rfl (by decide +kernel)
set_option maxRecDepth 20000 in
theorem gL_law_X6_digest : GoodIn wsL_law (wsV RL 188 RX6 yX6_digest wsX6_digest) := goodIn_app (goodIn_of _ (by decide +kernel)) ggL_law_X6_digest
