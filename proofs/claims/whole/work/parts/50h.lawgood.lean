set_option maxRecDepth 20000 in
theorem ggL_law_X10_dead : GoodIn wsL_law wsX10_dead := goodIn_r _ [632, 16, 221, 222, 223, 2, 224, 633, 634, 635, 18, 636, 104, 67, 86, 87, 869, 870, 871, 872, 873, 874, 875, 876, 877, 878, 879, 880, 881, 882, 924, 925, 926, 927, 928, 929, 930, 931, 932, 933] (by decide +kernel) (by decide +kernel)
set_option maxRecDepth 20000 in
theorem gL_law_X10_dead : GoodIn wsL_law (wsV RL 57 RX10 yX10_dead wsX10_dead) := goodIn_app (goodIn_of _ (by decide +kernel)) ggL_law_X10_dead
set_option maxRecDepth 20000 in
theorem ggL_law_X11_dead : GoodIn wsL_law wsX11_dead := goodIn_r _ [640, 641, 642, 165, 428, 429, 5, 430, 431, 206, 207, 208, 643, 644, 645, 646, 539, 540, 541, 542, 169, 883, 884, 885, 886, 887, 888, 889, 890, 891, 892, 893, 894, 895, 896, 897, 898, 899, 900, 901, 902, 903, 904, 905, 906, 907, 908, 909, 910, 911, 912, 913, 914, 915, 916, 917, 918, 919, 920, 921, 922, 923] (by decide +kernel) (by decide +kernel)
set_option maxRecDepth 20000 in
theorem gL_law_X11_dead : GoodIn wsL_law (wsV RL 60 RX11 yX11_dead wsX11_dead) := goodIn_app (goodIn_of _ (by decide +kernel)) ggL_law_X11_dead
set_option maxRecDepth 20000 in
theorem ggL_law_X10_fewest : GoodIn wsL_law wsX10_fewest := goodIn_r _ [650, 31, 16, 222, 223, 2, 224, 651, 652, 653, 30, 654, 655, 128, 656, 657, 658, 659, 129, 660, 661, 662, 663, 664, 665, 666, 667, 668, 634, 635, 18, 636, 104, 67, 86, 87, 669, 670, 671, 672, 673, 674, 675, 676, 677, 678, 97, 98, 99, 66, 869, 870, 871, 872, 873, 874, 875, 876, 877, 878, 879, 880, 881, 882, 924, 925, 926, 927, 928, 929, 930, 931, 932, 933, 947, 948] (by decide +kernel) (by decide +kernel)
set_option maxRecDepth 20000 in
theorem gL_law_X10_fewest : GoodIn wsL_law (wsV RL 61 RX10 yX10_fewest wsX10_fewest) := goodIn_app (goodIn_of _ (by decide +kernel)) ggL_law_X10_fewest
set_option maxRecDepth 20000 in
theorem ggL_law_X11_fewest : GoodIn wsL_law wsX11_fewest := goodIn_r _ [682, 641, 642, 181, 165, 182, 428, 429, 5, 430, 431, 206, 207, 208, 643, 644, 645, 646, 539, 540, 541, 542, 169, 683, 684, 685, 686, 687, 688, 689, 690, 543, 544, 545, 546, 163, 883, 884, 885, 886, 887, 888, 889, 890, 891, 892, 893, 894, 895, 896, 897, 898, 899, 900, 901, 902, 903, 904, 905, 906, 907, 908, 909, 910, 911, 912, 913, 914, 915, 916, 917, 918, 919, 920, 921, 922, 923] (by decide +kernel) (by decide +kernel)
set_option maxRecDepth 20000 in
theorem gL_law_X11_fewest : GoodIn wsL_law (wsV RL 64 RX11 yX11_fewest wsX11_fewest) := goodIn_app (goodIn_of _ (by decide +kernel)) ggL_law_X11_fewest
set_option maxRecDepth 20000 in
theorem ggL_law_X10_ahead : GoodIn wsL_law wsX10_ahead := goodIn_r _ [694, 16, 222, 223, 2, 224, 695, 93, 94, 18, 95, 67, 96, 97, 98, 99, 66, 869, 870, 871, 872, 873, 874, 875, 876, 877, 878, 879, 880, 881, 882, 924, 925, 926, 927, 928, 929, 930, 931, 932, 933] (by decide +kernel) (by decide +kernel)
set_option maxRecDepth 20000 in
theorem gL_law_X10_ahead : GoodIn wsL_law (wsV RL 65 RX10 yX10_ahead wsX10_ahead) := goodIn_app (goodIn_of _ (by decide +kernel)) ggL_law_X10_ahead
set_option maxRecDepth 20000 in
theorem ggL_law_X11_ahead : GoodIn wsL_law wsX11_ahead := goodIn_r _ [699, 428, 429, 5, 430, 431, 206, 207, 208, 700, 701, 702, 703, 704, 705, 706, 707, 183, 165, 708, 709, 710, 711, 539, 540, 541, 542, 169, 883, 884, 885, 886, 887, 888, 889, 890, 891, 892, 893, 894, 895, 896, 897, 898, 899, 900, 901, 902, 903, 904, 905, 906, 907, 908, 909, 910, 911, 912, 913, 914, 915, 916, 917, 918, 919, 920, 921, 922, 923] (by decide +kernel) (by decide +kernel)
set_option maxRecDepth 20000 in
theorem gL_law_X11_ahead : GoodIn wsL_law (wsV RL 68 RX11 yX11_ahead wsX11_ahead) := goodIn_app (goodIn_of _ (by decide +kernel)) ggL_law_X11_ahead
set_option maxRecDepth 20000 in
theorem ggL_law_X10_behind : GoodIn wsL_law wsX10_behind := goodIn_r _ [715, 16, 222, 223, 2, 224, 716, 86, 87, 695, 93, 94, 18, 95, 67, 96, 97, 98, 99, 66, 869, 870, 871, 872, 873, 874, 875, 876, 877, 878, 879, 880, 881, 882, 924, 925, 926, 927, 928, 929, 930, 931, 932, 933] (by decide +kernel) (by decide +kernel)
set_option maxRecDepth 20000 in
theorem gL_law_X10_behind : GoodIn wsL_law (wsV RL 69 RX10 yX10_behind wsX10_behind) := goodIn_app (goodIn_of _ (by decide +kernel)) ggL_law_X10_behind
set_option maxRecDepth 20000 in
theorem ggL_law_X11_behind : GoodIn wsL_law wsX11_behind := goodIn_r _ [720, 428, 429, 5, 430, 431, 206, 207, 208, 700, 701, 702, 703, 704, 705, 706, 707, 183, 165, 708, 709, 710, 711, 539, 540, 541, 542, 169, 883, 884, 885, 886, 887, 888, 889, 890, 891, 892, 893, 894, 895, 896, 897, 898, 899, 900, 901, 902, 903, 904, 905, 906, 907, 908, 909, 910, 911, 912, 913, 914, 915, 916, 917, 918, 919, 920, 921, 922, 923] (by decide +kernel) (by decide +kernel)
set_option maxRecDepth 20000 in
theorem gL_law_X11_behind : GoodIn wsL_law (wsV RL 72 RX11 yX11_behind wsX11_behind) := goodIn_app (goodIn_of _ (by decide +kernel)) ggL_law_X11_behind
set_option maxRecDepth 20000 in
theorem ggL_law_X10_many : GoodIn wsL_law wsX10_many := goodIn_r _ [724, 600, 16, 221, 55, 222, 223, 2, 224, 725, 726, 727, 18, 728, 96, 97, 98, 99, 66, 729, 730, 731, 732, 56, 733, 661, 662, 663, 531, 869, 870, 871, 872, 873, 874, 875, 876, 877, 878, 879, 880, 881, 882, 924, 925, 926, 927, 928, 929, 930, 931, 932, 933] (by decide +kernel) (by decide +kernel)
set_option maxRecDepth 20000 in
theorem gL_law_X10_many : GoodIn wsL_law (wsV RL 73 RX10 yX10_many wsX10_many) := goodIn_app (goodIn_of _ (by decide +kernel)) ggL_law_X10_many
set_option maxRecDepth 20000 in
theorem ggL_law_X11_many : GoodIn wsL_law wsX11_many := goodIn_r _ [737, 477, 609, 185, 184, 165, 428, 429, 5, 430, 431, 206, 207, 208, 539, 540, 541, 542, 169, 883, 884, 885, 886, 887, 888, 889, 890, 891, 892, 893, 894, 895, 896, 897, 898, 899, 900, 901, 902, 903, 904, 905, 906, 907, 908, 909, 910, 911, 912, 913, 914, 915, 916, 917, 918, 919, 920, 921, 922, 923] (by decide +kernel) (by decide +kernel)
set_option maxRecDepth 20000 in
theorem gL_law_X11_many : GoodIn wsL_law (wsV RL 76 RX11 yX11_many wsX11_many) := goodIn_app (goodIn_of _ (by decide +kernel)) ggL_law_X11_many
set_option maxRecDepth 20000 in
theorem ggL_law_X10_lets : GoodIn wsL_law wsX10_lets := goodIn_r _ [741, 16, 742, 743, 222, 223, 2, 224, 744, 745, 746, 747, 53, 748, 749, 750, 751, 752, 753, 530, 531, 97, 98, 18, 99, 66, 869, 870, 871, 872, 873, 874, 875, 876, 877, 878, 879, 880, 881, 882, 924, 925, 926, 927, 928, 929, 930, 931, 932, 933] (by decide +kernel) (by decide +kernel)
set_option maxRecDepth 20000 in
theorem gL_law_X10_lets : GoodIn wsL_law (wsV RL 77 RX10 yX10_lets wsX10_lets) := goodIn_app (goodIn_of _ (by decide +kernel)) ggL_law_X10_lets
set_option maxRecDepth 20000 in
theorem ggL_law_X11_lets : GoodIn wsL_law wsX11_lets := goodIn_r _ [757, 758, 759, 760, 761, 762, 5, 763, 612, 764, 428, 429, 430, 431, 206, 207, 208, 539, 540, 541, 542, 169, 543, 544, 545, 546, 163, 883, 884, 885, 886, 887, 888, 889, 890, 891, 892, 893, 894, 895, 896, 897, 898, 899, 900, 901, 902, 903, 904, 905, 906, 907, 908, 909, 910, 911, 912, 913, 914, 915, 916, 917, 918, 919, 920, 921, 922, 923] (by decide +kernel) (by decide +kernel)
set_option maxRecDepth 20000 in
theorem gL_law_X11_lets : GoodIn wsL_law (wsV RL 81 RX11 yX11_lets wsX11_lets) := goodIn_app (goodIn_of _ (by decide +kernel)) ggL_law_X11_lets
set_option maxRecDepth 20000 in
theorem ggL_law_X10_walk : GoodIn wsL_law wsX10_walk := goodIn_r _ [768, 16, 742, 743, 222, 223, 2, 224, 744, 745, 746, 747, 53, 748, 749, 750, 751, 752, 753, 530, 531, 97, 98, 18, 99, 66, 869, 870, 871, 872, 873, 874, 875, 876, 877, 878, 879, 880, 881, 882, 924, 925, 926, 927, 928, 929, 930, 931, 932, 933] (by decide +kernel) (by decide +kernel)
set_option maxRecDepth 20000 in
theorem gL_law_X10_walk : GoodIn wsL_law (wsV RL 82 RX10 yX10_walk wsX10_walk) := goodIn_app (goodIn_of _ (by decide +kernel)) ggL_law_X10_walk
set_option maxRecDepth 20000 in
theorem ggL_law_X11_walk : GoodIn wsL_law wsX11_walk := goodIn_r _ [772, 758, 759, 206, 207, 5, 208, 760, 761, 762, 763, 612, 764, 428, 429, 430, 431, 539, 540, 541, 542, 169, 543, 544, 545, 546, 163, 883, 884, 885, 886, 887, 888, 889, 890, 891, 892, 893, 894, 895, 896, 897, 898, 899, 900, 901, 902, 903, 904, 905, 906, 907, 908, 909, 910, 911, 912, 913, 914, 915, 916, 917, 918, 919, 920, 921, 922, 923] (by decide +kernel) (by decide +kernel)
set_option maxRecDepth 20000 in
theorem gL_law_X11_walk : GoodIn wsL_law (wsV RL 86 RX11 yX11_walk wsX11_walk) := goodIn_app (goodIn_of _ (by decide +kernel)) ggL_law_X11_walk
set_option maxRecDepth 20000 in
theorem ggL_law_X10_size : GoodIn wsL_law wsX10_size := goodIn_r _ [776, 16, 777, 778, 47, 51, 222, 223, 2, 224, 779, 780, 781, 18, 782, 61, 65, 63, 62, 783, 784, 785, 786, 787, 788, 789, 790, 791, 792, 793, 794, 37, 795, 796, 797, 798, 799, 800, 34, 801, 802, 803, 804, 40, 805, 806, 807, 808, 809, 810, 811, 43, 812, 813, 814, 815, 816, 817, 818, 819, 820, 821, 46, 822, 823, 824, 825, 826, 869, 870, 871, 872, 873, 874, 875, 876, 877, 878, 879, 880, 881, 882, 924, 925, 926, 927, 928, 929, 930, 931, 932, 933, 949] (by decide +kernel) (by decide +kernel)
set_option maxRecDepth 20000 in
theorem gL_law_X10_size : GoodIn wsL_law (wsV RL 87 RX10 yX10_size wsX10_size) := goodIn_app (goodIn_of _ (by decide +kernel)) ggL_law_X10_size
set_option maxRecDepth 20000 in
theorem ggL_law_X11_size : GoodIn wsL_law wsX11_size := goodIn_r _ [830, 168, 166, 167, 428, 429, 5, 430, 431, 206, 207, 208, 831, 832, 833, 834, 835, 836, 837, 838, 839, 840, 841, 842, 843, 844, 845, 846, 847, 848, 849, 850, 851, 883, 884, 885, 886, 887, 888, 889, 890, 891, 892, 893, 894, 895, 896, 897, 898, 899, 900, 901, 902, 903, 904, 905, 906, 907, 908, 909, 910, 911, 912, 913, 914, 915, 916, 917, 918, 919, 920, 921, 922, 923] (by decide +kernel) (by decide +kernel)
set_option maxRecDepth 20000 in
theorem gL_law_X11_size : GoodIn wsL_law (wsV RL 90 RX11 yX11_size wsX11_size) := goodIn_app (goodIn_of _ (by decide +kernel)) ggL_law_X11_size
set_option maxRecDepth 20000 in
theorem ggL_law_X10_count : GoodIn wsL_law wsX10_count := goodIn_r _ [855, 198, 16, 221, 869, 870, 871, 872, 873, 874, 875, 876, 877, 878, 879, 880, 881, 882, 924, 925, 926, 927, 928, 929, 930, 931, 932, 933] (by decide +kernel) (by decide +kernel)
set_option maxRecDepth 20000 in
theorem gL_law_X10_count : GoodIn wsL_law (wsV RL 91 RX10 yX10_count wsX10_count) := goodIn_app (goodIn_of _ (by decide +kernel)) ggL_law_X10_count
set_option maxRecDepth 20000 in
theorem ggL_law_X11_count : GoodIn wsL_law wsX11_count := goodIn_r _ [859, 165, 204, 883, 884, 885, 886, 887, 888, 889, 890, 891, 892, 893, 894, 895, 896, 897, 898, 899, 900, 901, 902, 903, 904, 905, 906, 907, 908, 909, 910, 911, 912, 913, 914, 915, 916, 917, 918, 919, 920, 921, 922, 923] (by decide +kernel) (by decide +kernel)
set_option maxRecDepth 20000 in
theorem gL_law_X11_count : GoodIn wsL_law (wsV RL 94 RX11 yX11_count wsX11_count) := goodIn_app (goodIn_of _ (by decide +kernel)) ggL_law_X11_count
set_option maxRecDepth 20000 in
theorem ggL_law_X10_trace : GoodIn wsL_law wsX10_trace := goodIn_r _ [863, 51, 864, 869, 870, 871, 872, 873, 874, 875, 876, 877, 878, 879, 880, 881, 882, 949] (by decide +kernel) (by decide +kernel)
set_option maxRecDepth 20000 in
theorem gL_law_X10_trace : GoodIn wsL_law (wsV RL 95 RX10 yX10_trace wsX10_trace) := goodIn_app (goodIn_of _ (by decide +kernel)) ggL_law_X10_trace
set_option maxRecDepth 20000 in
theorem ggL_law_X11_trace : GoodIn wsL_law wsX11_trace := goodIn_r _ [868, 839, 883, 884, 885, 886, 887, 888, 889, 890, 891, 892, 893, 894, 895, 896, 897, 898, 899, 900, 901, 902, 903, 904, 905, 906, 907, 908, 909, 910, 911, 912, 913, 914, 915, 916, 917, 918, 919, 920, 921, 922, 923] (by decide +kernel) (by decide +kernel)
set_option maxRecDepth 20000 in
theorem gL_law_X11_trace : GoodIn wsL_law (wsV RL 99 RX11 yX11_trace wsX11_trace) := goodIn_app (goodIn_of _ (by decide +kernel)) ggL_law_X11_trace
