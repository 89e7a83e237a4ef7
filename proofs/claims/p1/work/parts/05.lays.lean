def pm_Rn : Nat → String := fun c => match c with
  | 0 => RX0
  | 1 => RX1
  | 2 => RX2
  | 3 => RX3
  | 4 => RX4
  | 5 => RX5
  | 6 => RX6
  | 7 => RX7
  | 8 => RX8
  | 9 => RX9
  | 10 => RX10
  | 11 => RX11
  | 12 => RX12
  | 13 => RX13
  | 14 => RX14
  | 15 => RX15
  | _ => RX16
def pm_T : Nat → u_T := fun c => match c with
  | 0 => TX0
  | 1 => TX1
  | 2 => TX2
  | 3 => TX3
  | 4 => TX4
  | 5 => TX5
  | 6 => TX6
  | 7 => TX7
  | 8 => TX8
  | 9 => TX9
  | 10 => TX10
  | 11 => TX11
  | 12 => TX12
  | 13 => TX13
  | 14 => TX14
  | 15 => TX15
  | _ => TX16
/-- a class of ours: its place in the list, its layout among the tables' words -/
def pm_Cl (c : Nat) : Prop := c < 31 ∧ vwCl[c]? = some (pm_Rn c, pm_T c, pm_fN c) ∧ (∀ w ∈ u_ws (pm_Rn c) (pm_T c) (pm_fN c), w ∈ lw_tbl) ∧ (∀ k, k < pm_fN c → parseFieldDescriptor (pm_T c k).2.2.1 = some (pm_fty c k)) ∧ ∀ a, a < pm_fN c → ∀ b, b < pm_fN c → a ≠ b → (pm_T c a).2.1 ≠ (pm_T c b).2.1
theorem pm_pos {big ws : List Cond} (ps : List Nat) (hp : ws = ps.filterMap (fun i => big[i]?)) : ∀ w ∈ ws, w ∈ big := by
  intro w hw
  rw [hp] at hw
  obtain ⟨i, -, hi⟩ := List.mem_filterMap.mp hw
  exact List.mem_of_getElem? hi
theorem pm_mem_i {w : Cond} (i : Nat) (hp : tables_1[i]? = some w) : w ∈ lw_tbl := List.mem_append_right _ (List.mem_of_getElem? hp)
theorem pm_Cl0 : pm_Cl 0 := ⟨by decide, rfl, pm_pos [538, 540, 542, 544, 546, 548, 550, 552, 554] (by decide +kernel), tyX0_ok, nmX0⟩
theorem pm_Cl1 : pm_Cl 1 := ⟨by decide, rfl, pm_pos [577, 579, 581, 583, 585, 587, 589, 591, 593, 595, 597, 599, 601, 603, 605, 607, 609, 611] (by decide +kernel), tyX1_ok, nmX1⟩
theorem pm_Cl2 : pm_Cl 2 := ⟨by decide, rfl, pm_pos [849, 851, 853, 855, 857, 859, 861, 863, 865, 867, 869, 871, 873] (by decide +kernel), tyX2_ok, nmX2⟩
theorem pm_Cl3 : pm_Cl 3 := ⟨by decide, rfl, pm_pos [896, 898, 900, 902, 904, 906, 908, 910] (by decide +kernel), tyX3_ok, nmX3⟩
theorem pm_Cl4 : pm_Cl 4 := ⟨by decide, rfl, pm_pos [731, 733, 735, 737, 739, 741, 743, 745] (by decide +kernel), tyX4_ok, nmX4⟩
theorem pm_Cl5 : pm_Cl 5 := ⟨by decide, rfl, pm_pos [936, 938, 940, 942, 944, 946, 948, 950, 952, 954, 956, 958, 960, 962, 964] (by decide +kernel), tyX5_ok, nmX5⟩
theorem pm_Cl6 : pm_Cl 6 := ⟨by decide, rfl, pm_pos [672, 674, 676, 678, 680] (by decide +kernel), tyX6_ok, nmX6⟩
theorem pm_Cl7 : pm_Cl 7 := ⟨by decide, rfl, pm_pos [386, 388, 390, 392, 394, 396, 398, 400, 402, 404, 406, 408, 410, 412, 414] (by decide +kernel), tyX7_ok, nmX7⟩
theorem pm_Cl8 : pm_Cl 8 := ⟨by decide, rfl, pm_pos [694] (by decide +kernel), tyX8_ok, nmX8⟩
theorem pm_Cl9 : pm_Cl 9 := ⟨by decide, rfl, pm_pos [456, 458, 460, 462, 464, 466, 468, 470, 472, 474, 476, 478, 480, 482, 484, 486, 488, 490, 492] (by decide +kernel), tyX9_ok, nmX9⟩
theorem pm_Cl10 : pm_Cl 10 := ⟨by decide, rfl, pm_pos [778, 780, 782, 784, 786, 788, 790, 792, 794, 796, 798, 800, 802, 804, 806, 808, 810, 812, 814, 816] (by decide +kernel), tyX10_ok, nmX10⟩
theorem pm_Cl11 : pm_Cl 11 := ⟨by decide, rfl, pm_pos [640, 642, 644, 646, 648, 650] (by decide +kernel), tyX11_ok, nmX11⟩
theorem pm_Cl12 : pm_Cl 12 := ⟨by decide, rfl, pm_pos [983, 985, 987, 989, 991, 993, 995, 997, 999, 1001, 1003, 1005, 1007, 1009, 1011, 1013] (by decide +kernel), tyX12_ok, nmX12⟩
theorem pm_Cl13 : pm_Cl 13 := ⟨by decide, rfl, pm_pos [2313, 2315, 2317, 2319, 2321, 2359] (by decide +kernel), tyX13_ok, nmX13⟩
theorem pm_Cl14 : pm_Cl 14 := ⟨by decide, rfl, pm_pos [2829, 2831, 2833, 2835, 2837, 2839, 2841, 2843, 2845, 2847, 2849, 2851, 2853, 2855, 2857, 2859, 2861, 2863, 2865, 2867, 2869, 2871, 2873, 2875, 2877, 2879, 2881, 2883, 2885, 2887, 2889, 2891, 2893, 2895, 2897, 2899, 2901, 2903, 2905, 2907, 2909, 2911, 2913, 2915, 2917, 2919, 2921, 2923, 2925, 2927, 2929, 2931, 2933, 2935, 2937, 2939, 2941, 2943] (by decide +kernel), tyX14_ok, nmX14⟩
theorem pm_Cl15 : pm_Cl 15 := ⟨by decide, rfl, pm_pos [2378, 2380, 2382, 2384] (by decide +kernel), tyX15_ok, nmX15⟩
theorem pm_Cl16 : pm_Cl 16 := ⟨by decide, rfl, pm_pos [2491, 2493, 2495, 2497, 2499, 2501, 2503, 2505, 2507, 2509, 2511, 2513, 2515, 2517, 2519, 2521, 2523, 2525, 2527, 2529, 2531, 2533, 2535, 2537, 2539, 2541, 2543, 2545, 2547, 2549, 2551, 2553, 2555, 2557, 2559, 2561, 2563, 2565, 2567, 2569, 2571, 2573, 2575, 2577, 2579, 2581, 2583, 2585, 2587, 2589, 2591, 2593, 2595, 2597, 2599, 2601, 2603, 2605, 2607, 2609, 2611, 2613, 2615, 2617, 2619, 2621, 2623, 2625, 2627, 2629, 2631, 2633, 2635, 2637, 2639, 2641, 2643, 2645, 2647, 2649, 2651, 2653, 2655, 2657, 2659, 2661, 2663, 2665, 2667, 2669, 2671, 2673, 2675, 2677, 2679, 2681, 2683, 2685, 2687, 2689, 2691] (by decide +kernel), tyX16_ok, nmX16⟩
