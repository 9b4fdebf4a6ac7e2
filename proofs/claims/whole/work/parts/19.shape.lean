/-! THE CELLS -/
theorem sk0 : ab_k 0 = 0 := rfl
theorem sr0_0 : ab_r 0 0 = 1 := rfl
theorem sr0_1 : ab_r 0 1 = 3 := rfl
theorem sr0_2 : ab_r 0 2 = 11 := rfl
theorem sr0_3 : ab_r 0 3 = 16 := rfl
theorem sr0_4 : ab_r 0 4 = 18 := rfl
theorem sr0_5 : ab_r 0 5 = 20 := rfl
theorem sr0_6 : ab_r 0 6 = 26 := rfl
theorem sr0_7 : ab_r 0 7 = 31 := rfl
theorem sr0_8 : ab_r 0 8 = 40 := rfl
theorem sr0_9 : ab_r 0 9 = 46 := rfl
theorem sk1 : ab_k 1 = 1 := rfl
theorem sr1_0 : ab_r 1 0 = 2 := rfl
theorem sk2 : ab_k 2 = 101 := rfl
theorem sn2 : ab_n 2 = 64 := rfl
theorem sk3 : ab_k 3 = 2 := rfl
theorem sr3_0 : ab_r 3 0 = 4 := rfl
theorem sr3_1 : ab_r 3 1 = 9 := rfl
theorem sk4 : ab_k 4 = 3 := rfl
theorem sr4_0 : ab_r 4 0 = 5 := rfl
theorem sr4_1 : ab_r 4 1 = 6 := rfl
theorem sr4_2 : ab_r 4 2 = 7 := rfl
theorem sr4_3 : ab_r 4 3 = 8 := rfl
theorem sk5 : ab_k 5 = 100 := rfl
theorem sn5 : ab_n 5 = 8 := rfl
theorem sk6 : ab_k 6 = 100 := rfl
theorem sn6 : ab_n 6 = 8 := rfl
theorem sk7 : ab_k 7 = 100 := rfl
theorem sn7 : ab_n 7 = 8 := rfl
theorem sk8 : ab_k 8 = 100 := rfl
theorem sn8 : ab_n 8 = 8 := rfl
theorem sk9 : ab_k 9 = 4 := rfl
theorem sr9_0 : ab_r 9 0 = 10 := rfl
theorem sk10 : ab_k 10 = 100 := rfl
theorem sn10 : ab_n 10 = 6 := rfl
theorem sk11 : ab_k 11 = 3 := rfl
theorem sr11_0 : ab_r 11 0 = 12 := rfl
theorem sr11_1 : ab_r 11 1 = 13 := rfl
theorem sr11_2 : ab_r 11 2 = 14 := rfl
theorem sr11_3 : ab_r 11 3 = 15 := rfl
theorem sk12 : ab_k 12 = 100 := rfl
theorem sn12 : ab_n 12 = 8 := rfl
theorem sk13 : ab_k 13 = 100 := rfl
theorem sn13 : ab_n 13 = 8 := rfl
theorem sk14 : ab_k 14 = 100 := rfl
theorem sn14 : ab_n 14 = 8 := rfl
theorem sk15 : ab_k 15 = 100 := rfl
theorem sn15 : ab_n 15 = 8 := rfl
theorem sk16 : ab_k 16 = 4 := rfl
theorem sr16_0 : ab_r 16 0 = 17 := rfl
theorem sk17 : ab_k 17 = 100 := rfl
theorem sn17 : ab_n 17 = 6 := rfl
theorem sk18 : ab_k 18 = 4 := rfl
theorem sr18_0 : ab_r 18 0 = 19 := rfl
theorem sk19 : ab_k 19 = 100 := rfl
theorem sn19 : ab_n 19 = 6 := rfl
theorem sk20 : ab_k 20 = 5 := rfl
theorem sr20_0 : ab_r 20 0 = 21 := rfl
theorem sr20_1 : ab_r 20 1 = 22 := rfl
theorem sr20_2 : ab_r 20 2 = 23 := rfl
theorem sr20_3 : ab_r 20 3 = 24 := rfl
theorem sr20_4 : ab_r 20 4 = 25 := rfl
theorem sk21 : ab_k 21 = 100 := rfl
theorem sn21 : ab_n 21 = 12 := rfl
theorem sk22 : ab_k 22 = 100 := rfl
theorem sn22 : ab_n 22 = 12 := rfl
theorem sk23 : ab_k 23 = 100 := rfl
theorem sn23 : ab_n 23 = 12 := rfl
theorem sk24 : ab_k 24 = 100 := rfl
theorem sn24 : ab_n 24 = 12 := rfl
theorem sk25 : ab_k 25 = 100 := rfl
theorem sn25 : ab_n 25 = 12 := rfl
theorem sk26 : ab_k 26 = 104 := rfl
theorem sn26 : ab_n 26 = 2 := rfl
theorem sr26_0 : ab_r 26 0 = 27 := rfl
theorem sr26_1 : ab_r 26 1 = 29 := rfl
theorem sk27 : ab_k 27 = 4 := rfl
theorem sr27_0 : ab_r 27 0 = 28 := rfl
theorem sk28 : ab_k 28 = 100 := rfl
theorem sn28 : ab_n 28 = 6 := rfl
theorem sk29 : ab_k 29 = 4 := rfl
theorem sr29_0 : ab_r 29 0 = 30 := rfl
theorem sk30 : ab_k 30 = 100 := rfl
theorem sn30 : ab_n 30 = 6 := rfl
theorem sk31 : ab_k 31 = 6 := rfl
theorem sr31_0 : ab_r 31 0 = 32 := rfl
theorem sr31_1 : ab_r 31 1 = 35 := rfl
theorem sr31_2 : ab_r 31 2 = 36 := rfl
theorem sr31_3 : ab_r 31 3 = 37 := rfl
theorem sr31_4 : ab_r 31 4 = 38 := rfl
theorem sr31_5 : ab_r 31 5 = 39 := rfl
theorem sk32 : ab_k 32 = 7 := rfl
theorem sr32_0 : ab_r 32 0 = 33 := rfl
theorem sk33 : ab_k 33 = 4 := rfl
theorem sr33_0 : ab_r 33 0 = 34 := rfl
theorem sk34 : ab_k 34 = 100 := rfl
theorem sn34 : ab_n 34 = 6 := rfl
theorem sk35 : ab_k 35 = 100 := rfl
theorem sn35 : ab_n 35 = 256 := rfl
theorem sk36 : ab_k 36 = 100 := rfl
theorem sn36 : ab_n 36 = 256 := rfl
theorem sk37 : ab_k 37 = 100 := rfl
theorem sn37 : ab_n 37 = 256 := rfl
theorem sk38 : ab_k 38 = 100 := rfl
theorem sn38 : ab_n 38 = 256 := rfl
theorem sk39 : ab_k 39 = 100 := rfl
theorem sn39 : ab_n 39 = 256 := rfl
theorem sk40 : ab_k 40 = 8 := rfl
theorem sr40_0 : ab_r 40 0 = 41 := rfl
theorem sr40_1 : ab_r 40 1 = 44 := rfl
theorem sr40_2 : ab_r 40 2 = 45 := rfl
theorem sk41 : ab_k 41 = 7 := rfl
theorem sr41_0 : ab_r 41 0 = 42 := rfl
theorem sk42 : ab_k 42 = 4 := rfl
theorem sr42_0 : ab_r 42 0 = 43 := rfl
theorem sk43 : ab_k 43 = 100 := rfl
theorem sn43 : ab_n 43 = 6 := rfl
theorem sk44 : ab_k 44 = 100 := rfl
theorem sn44 : ab_n 44 = 256 := rfl
theorem sk45 : ab_k 45 = 100 := rfl
theorem sn45 : ab_n 45 = 256 := rfl
theorem sk46 : ab_k 46 = 9 := rfl
theorem sr46_0 : ab_r 46 0 = 47 := rfl
theorem sr46_1 : ab_r 46 1 = 48 := rfl
theorem sk47 : ab_k 47 = 103 := rfl
theorem sn47 : ab_n 47 = 55 := rfl
theorem sk48 : ab_k 48 = 4 := rfl
theorem sr48_0 : ab_r 48 0 = 49 := rfl
theorem sk49 : ab_k 49 = 100 := rfl
theorem sn49 : ab_n 49 = 6 := rfl
theorem sk50 : ab_k 50 = 10 := rfl
theorem sr50_1 : ab_r 50 1 = 51 := rfl
theorem sr50_6 : ab_r 50 6 = 52 := rfl
theorem sr50_9 : ab_r 50 9 = 53 := rfl
theorem sr50_10 : ab_r 50 10 = 54 := rfl
theorem sr50_11 : ab_r 50 11 = 55 := rfl
theorem sr50_12 : ab_r 50 12 = 56 := rfl
theorem sr50_17 : ab_r 50 17 = 57 := rfl
theorem sr50_20 : ab_r 50 20 = 58 := rfl
theorem sr50_21 : ab_r 50 21 = 59 := rfl
theorem sr50_22 : ab_r 50 22 = 60 := rfl
theorem sr50_23 : ab_r 50 23 = 61 := rfl
theorem sr50_24 : ab_r 50 24 = 62 := rfl
theorem sr50_26 : ab_r 50 26 = 63 := rfl
theorem sr50_27 : ab_r 50 27 = 64 := rfl
theorem sr50_28 : ab_r 50 28 = 65 := rfl
theorem sr50_31 : ab_r 50 31 = 66 := rfl
theorem sr50_32 : ab_r 50 32 = 67 := rfl
theorem sr50_33 : ab_r 50 33 = 68 := rfl
theorem sr50_35 : ab_r 50 35 = 69 := rfl
theorem sr50_36 : ab_r 50 36 = 70 := rfl
theorem sr50_37 : ab_r 50 37 = 71 := rfl
theorem sk51 : ab_k 51 = 100 := rfl
theorem sn51 : ab_n 51 = 64 := rfl
theorem sk52 : ab_k 52 = 100 := rfl
theorem sn52 : ab_n 52 = 6 := rfl
theorem sk53 : ab_k 53 = 100 := rfl
theorem sn53 : ab_n 53 = 8 := rfl
theorem sk54 : ab_k 54 = 100 := rfl
theorem sn54 : ab_n 54 = 8 := rfl
theorem sk55 : ab_k 55 = 100 := rfl
theorem sn55 : ab_n 55 = 8 := rfl
theorem sk56 : ab_k 56 = 100 := rfl
theorem sn56 : ab_n 56 = 8 := rfl
theorem sk57 : ab_k 57 = 100 := rfl
theorem sn57 : ab_n 57 = 6 := rfl
theorem sk58 : ab_k 58 = 100 := rfl
theorem sn58 : ab_n 58 = 8 := rfl
theorem sk59 : ab_k 59 = 100 := rfl
theorem sn59 : ab_n 59 = 8 := rfl
theorem sk60 : ab_k 60 = 100 := rfl
theorem sn60 : ab_n 60 = 8 := rfl
theorem sk61 : ab_k 61 = 100 := rfl
theorem sn61 : ab_n 61 = 8 := rfl
theorem sk62 : ab_k 62 = 100 := rfl
theorem sn62 : ab_n 62 = 192 := rfl
theorem sk63 : ab_k 63 = 100 := rfl
theorem sn63 : ab_n 63 = 32 := rfl
theorem sk64 : ab_k 64 = 102 := rfl
theorem sn64 : ab_n 64 = 2 := rfl
theorem sk65 : ab_k 65 = 100 := rfl
theorem sn65 : ab_n 65 = 6 := rfl
theorem sk66 : ab_k 66 = 100 := rfl
theorem sn66 : ab_n 66 = 9 := rfl
theorem sk67 : ab_k 67 = 100 := rfl
theorem sn67 : ab_n 67 = 9 := rfl
theorem sk68 : ab_k 68 = 100 := rfl
theorem sn68 : ab_n 68 = 8 := rfl
theorem sk69 : ab_k 69 = 100 := rfl
theorem sn69 : ab_n 69 = 256 := rfl
theorem sk70 : ab_k 70 = 103 := rfl
theorem sn70 : ab_n 70 = 56 := rfl
theorem sk71 : ab_k 71 = 103 := rfl
theorem sn71 : ab_n 71 = 56 := rfl
