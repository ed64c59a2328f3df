theorem gLW_1 : ∀ w ∈ u_ws RX1 TX1 14, w ∈ gtb := by
  intro w hw
  obtain ⟨k, hk, rfl⟩ := List.mem_map.mp hw
  have h : (List.range 14).all (fun k => gwd ([720, 722, 724, 726, 728, 730, 732, 734, 736, 738, 740, 742, 744, 746].getD k 0) (u_lay RX1 TX1 k)) = true := by decide +kernel
  exact gwd_mem (List.all_eq_true.mp h k hk)
theorem gLW_2 : ∀ w ∈ u_ws RX2 TX2 2, w ∈ gtb := by
  intro w hw
  obtain ⟨k, hk, rfl⟩ := List.mem_map.mp hw
  have h : (List.range 2).all (fun k => gwd ([231, 233].getD k 0) (u_lay RX2 TX2 k)) = true := by decide +kernel
  exact gwd_mem (List.all_eq_true.mp h k hk)
theorem gLW_3 : ∀ w ∈ u_ws RX3 TX3 13, w ∈ gtb := by
  intro w hw
  obtain ⟨k, hk, rfl⟩ := List.mem_map.mp hw
  have h : (List.range 13).all (fun k => gwd ([397, 399, 401, 403, 405, 407, 409, 411, 413, 415, 417, 419, 421].getD k 0) (u_lay RX3 TX3 k)) = true := by decide +kernel
  exact gwd_mem (List.all_eq_true.mp h k hk)
theorem gLW_4 : ∀ w ∈ u_ws RX4 TX4 19, w ∈ gtb := by
  intro w hw
  obtain ⟨k, hk, rfl⟩ := List.mem_map.mp hw
  have h : (List.range 19).all (fun k => gwd ([530, 532, 534, 536, 538, 540, 542, 544, 546, 548, 550, 552, 554, 556, 558, 560, 562, 564, 566].getD k 0) (u_lay RX4 TX4 k)) = true := by decide +kernel
  exact gwd_mem (List.all_eq_true.mp h k hk)
theorem gLW_5 : ∀ w ∈ u_ws RX5 TX5 3, w ∈ gtb := by
  intro w hw
  obtain ⟨k, hk, rfl⟩ := List.mem_map.mp hw
  have h : (List.range 3).all (fun k => gwd ([248, 250, 252].getD k 0) (u_lay RX5 TX5 k)) = true := by decide +kernel
  exact gwd_mem (List.all_eq_true.mp h k hk)
theorem gLW_6 : ∀ w ∈ u_ws RX6 TX6 18, w ∈ gtb := by
  intro w hw
  obtain ⟨k, hk, rfl⟩ := List.mem_map.mp hw
  have h : (List.range 18).all (fun k => gwd ([643, 645, 647, 649, 651, 653, 655, 657, 659, 661, 663, 665, 667, 669, 671, 673, 675, 677].getD k 0) (u_lay RX6 TX6 k)) = true := by decide +kernel
  exact gwd_mem (List.all_eq_true.mp h k hk)
theorem gLW_7 : ∀ w ∈ u_ws RX7 TX7 19, w ∈ gtb := by
  intro w hw
  obtain ⟨k, hk, rfl⟩ := List.mem_map.mp hw
  have h : (List.range 19).all (fun k => gwd ([456, 458, 460, 462, 464, 466, 468, 470, 472, 474, 476, 478, 480, 482, 484, 486, 488, 490, 492].getD k 0) (u_lay RX7 TX7 k)) = true := by decide +kernel
  exact gwd_mem (List.all_eq_true.mp h k hk)
theorem gLW_8 : ∀ w ∈ u_ws RX8 TX8 7, w ∈ gtb := by
  intro w hw
  obtain ⟨k, hk, rfl⟩ := List.mem_map.mp hw
  have h : (List.range 7).all (fun k => gwd ([360, 362, 364, 366, 368, 370, 372].getD k 0) (u_lay RX8 TX8 k)) = true := by decide +kernel
  exact gwd_mem (List.all_eq_true.mp h k hk)
theorem gLW_9 : ∀ w ∈ u_ws RX9 TX9 6, w ∈ gtb := by
  intro w hw
  obtain ⟨k, hk, rfl⟩ := List.mem_map.mp hw
  have h : (List.range 6).all (fun k => gwd ([597, 599, 601, 603, 605, 607].getD k 0) (u_lay RX9 TX9 k)) = true := by decide +kernel
  exact gwd_mem (List.all_eq_true.mp h k hk)
theorem gLW_10 : ∀ w ∈ u_ws RX10 TX10 17, w ∈ gtb := by
  intro w hw
  obtain ⟨k, hk, rfl⟩ := List.mem_map.mp hw
  have h : (List.range 17).all (fun k => gwd ([296, 298, 300, 302, 304, 306, 308, 310, 312, 314, 316, 318, 320, 322, 324, 326, 328].getD k 0) (u_lay RX10 TX10 k)) = true := by decide +kernel
  exact gwd_mem (List.all_eq_true.mp h k hk)
theorem gLW_11 : ∀ w ∈ u_ws RX11 TX11 10, w ∈ gtb := by
  intro w hw
  obtain ⟨k, hk, rfl⟩ := List.mem_map.mp hw
  have h : (List.range 10).all (fun k => gwd ([759, 761, 763, 765, 767, 769, 771, 773, 775, 777].getD k 0) (u_lay RX11 TX11 k)) = true := by decide +kernel
  exact gwd_mem (List.all_eq_true.mp h k hk)
theorem gLW_12 : ∀ w ∈ u_ws RX12 TX12 154, w ∈ gtb := by
  intro w hw
  obtain ⟨k, hk, rfl⟩ := List.mem_map.mp hw
  have h : (List.range 154).all (fun k => gwd ([2458, 2460, 2462, 2464, 2466, 2468, 2470, 2472, 2474, 2476, 2478, 2480, 2482, 2484, 2486, 2488, 2490, 2492, 2494, 2496, 2498, 2500, 2502, 2504, 2506, 2508, 2510, 2512, 2514, 2516, 2518, 2520, 2522, 2524, 2526, 2528, 2530, 2532, 2534, 2536, 2538, 2540, 2542, 2544, 2546, 2548, 2550, 2552, 2554, 2556, 2558, 2560, 2562, 2564, 2566, 2568, 2570, 2572, 2574, 2576, 2578, 2580, 2582, 2584, 2586, 2588, 2590, 2592, 2594, 2596, 2598, 2600, 2602, 2604, 2606, 2608, 2610, 2612, 2614, 2616, 2618, 2620, 2622, 2624, 2626, 2628, 2630, 2632, 2634, 2636, 2638, 2640, 2642, 2644, 2646, 2648, 2650, 2652, 2654, 2656, 2658, 2660, 2662, 2664, 2666, 2668, 2670, 2672, 2674, 2676, 2678, 2680, 2682, 2684, 2686, 2688, 2690, 2692, 2694, 2696, 2698, 2700, 2702, 2704, 2706, 2708, 2710, 2712, 2714, 2716, 2718, 2720, 2722, 2724, 2726, 2728, 2730, 2732, 2734, 2736, 2738, 2740, 2742, 2744, 2746, 2748, 2750, 2752, 2754, 2756, 2758, 2760, 2762, 2764].getD k 0) (u_lay RX12 TX12 k)) = true := by decide +kernel
  exact gwd_mem (List.all_eq_true.mp h k hk)
theorem gcls_ok : ∀ ci, ci < 12 → vwCl[ci]? = some (gcl ci) ∧ (∀ k, k < gnf ci → parseFieldDescriptor ((gcl ci).2.1 k).2.2.1 = some (gty ci k)) ∧ (∀ a, a < gnf ci → ∀ b, b < gnf ci → a ≠ b → ((gcl ci).2.1 a).2.1 ≠ ((gcl ci).2.1 b).2.1) ∧ (∀ w ∈ u_ws (gcl ci).1 (gcl ci).2.1 (gcl ci).2.2, w ∈ gtb)
  | 0, _ => ⟨rfl, tyX1_ok, nmX1, gLW_1⟩
  | 1, _ => ⟨rfl, tyX2_ok, nmX2, gLW_2⟩
  | 2, _ => ⟨rfl, tyX3_ok, nmX3, gLW_3⟩
  | 3, _ => ⟨rfl, tyX4_ok, nmX4, gLW_4⟩
  | 4, _ => ⟨rfl, tyX5_ok, nmX5, gLW_5⟩
  | 5, _ => ⟨rfl, tyX6_ok, nmX6, gLW_6⟩
  | 6, _ => ⟨rfl, tyX7_ok, nmX7, gLW_7⟩
  | 7, _ => ⟨rfl, tyX8_ok, nmX8, gLW_8⟩
  | 8, _ => ⟨rfl, tyX9_ok, nmX9, gLW_9⟩
  | 9, _ => ⟨rfl, tyX10_ok, nmX10, gLW_10⟩
  | 10, _ => ⟨rfl, tyX11_ok, nmX11, gLW_11⟩
  | 11, _ => ⟨rfl, tyX12_ok, nmX12, gLW_12⟩
  | n + 12, h => absurd h (by omega)
