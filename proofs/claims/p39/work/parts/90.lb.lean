def dLw32 : List (Nat × Instr × Nat) := [(816, .invokevirtual 105, 3), (819, .pop, 1), (820, .aload_n 2, 1), (821, .aload_n 0, 1), (822, .iload_n 3, 1), (823, .iconst 1, 1), (824, .iadd, 1), (825, .iaload, 1), (826, .aload_n 0, 1), (827, .iload_n 3, 1), (828, .iconst 2, 1), (829, .iadd, 1), (830, .iaload, 1), (831, .invokevirtual 108, 3), (834, .pop, 1), (835, .goto 536, 3)]
theorem dLw32_ok : dLw32.all (dk_q code) = true := by decide +kernel
theorem dL_law_816 : decode code 816 = .ok (.invokevirtual 105, 3) := dk_D_ok dLw32_ok 816 (.invokevirtual 105, 3) rfl
theorem dL_law_819 : decode code 819 = .ok (.pop, 1) := dk_D_ok dLw32_ok 819 (.pop, 1) rfl
theorem dL_law_820 : decode code 820 = .ok (.aload_n 2, 1) := dk_D_ok dLw32_ok 820 (.aload_n 2, 1) rfl
theorem dL_law_821 : decode code 821 = .ok (.aload_n 0, 1) := dk_D_ok dLw32_ok 821 (.aload_n 0, 1) rfl
theorem dL_law_822 : decode code 822 = .ok (.iload_n 3, 1) := dk_D_ok dLw32_ok 822 (.iload_n 3, 1) rfl
theorem dL_law_823 : decode code 823 = .ok (.iconst 1, 1) := dk_D_ok dLw32_ok 823 (.iconst 1, 1) rfl
theorem dL_law_824 : decode code 824 = .ok (.iadd, 1) := dk_D_ok dLw32_ok 824 (.iadd, 1) rfl
theorem dL_law_825 : decode code 825 = .ok (.iaload, 1) := dk_D_ok dLw32_ok 825 (.iaload, 1) rfl
theorem dL_law_826 : decode code 826 = .ok (.aload_n 0, 1) := dk_D_ok dLw32_ok 826 (.aload_n 0, 1) rfl
theorem dL_law_827 : decode code 827 = .ok (.iload_n 3, 1) := dk_D_ok dLw32_ok 827 (.iload_n 3, 1) rfl
theorem dL_law_828 : decode code 828 = .ok (.iconst 2, 1) := dk_D_ok dLw32_ok 828 (.iconst 2, 1) rfl
theorem dL_law_829 : decode code 829 = .ok (.iadd, 1) := dk_D_ok dLw32_ok 829 (.iadd, 1) rfl
theorem dL_law_830 : decode code 830 = .ok (.iaload, 1) := dk_D_ok dLw32_ok 830 (.iaload, 1) rfl
theorem dL_law_831 : decode code 831 = .ok (.invokevirtual 108, 3) := dk_D_ok dLw32_ok 831 (.invokevirtual 108, 3) rfl
theorem dL_law_834 : decode code 834 = .ok (.pop, 1) := dk_D_ok dLw32_ok 834 (.pop, 1) rfl
theorem dL_law_835 : decode code 835 = .ok (.goto 536, 3) := dk_D_ok dLw32_ok 835 (.goto 536, 3) rfl
def dLw33 : List (Nat × Instr × Nat) := [(838, .aload_n 1, 1), (839, .aload_n 0, 1), (840, .iload_n 3, 1), (841, .iconst 1, 1), (842, .iadd, 1), (843, .iaload, 1), (844, .aload_n 0, 1), (845, .iload_n 3, 1), (846, .iconst 2, 1), (847, .iadd, 1), (848, .iaload, 1), (849, .invokevirtual 109, 3), (852, .pop, 1), (853, .aload_n 2, 1), (854, .aload_n 0, 1), (855, .iload_n 3, 1)]
theorem dLw33_ok : dLw33.all (dk_q code) = true := by decide +kernel
theorem dL_law_838 : decode code 838 = .ok (.aload_n 1, 1) := dk_D_ok dLw33_ok 838 (.aload_n 1, 1) rfl
theorem dL_law_839 : decode code 839 = .ok (.aload_n 0, 1) := dk_D_ok dLw33_ok 839 (.aload_n 0, 1) rfl
theorem dL_law_840 : decode code 840 = .ok (.iload_n 3, 1) := dk_D_ok dLw33_ok 840 (.iload_n 3, 1) rfl
theorem dL_law_841 : decode code 841 = .ok (.iconst 1, 1) := dk_D_ok dLw33_ok 841 (.iconst 1, 1) rfl
theorem dL_law_842 : decode code 842 = .ok (.iadd, 1) := dk_D_ok dLw33_ok 842 (.iadd, 1) rfl
theorem dL_law_843 : decode code 843 = .ok (.iaload, 1) := dk_D_ok dLw33_ok 843 (.iaload, 1) rfl
theorem dL_law_844 : decode code 844 = .ok (.aload_n 0, 1) := dk_D_ok dLw33_ok 844 (.aload_n 0, 1) rfl
theorem dL_law_845 : decode code 845 = .ok (.iload_n 3, 1) := dk_D_ok dLw33_ok 845 (.iload_n 3, 1) rfl
theorem dL_law_846 : decode code 846 = .ok (.iconst 2, 1) := dk_D_ok dLw33_ok 846 (.iconst 2, 1) rfl
theorem dL_law_847 : decode code 847 = .ok (.iadd, 1) := dk_D_ok dLw33_ok 847 (.iadd, 1) rfl
theorem dL_law_848 : decode code 848 = .ok (.iaload, 1) := dk_D_ok dLw33_ok 848 (.iaload, 1) rfl
theorem dL_law_849 : decode code 849 = .ok (.invokevirtual 109, 3) := dk_D_ok dLw33_ok 849 (.invokevirtual 109, 3) rfl
theorem dL_law_852 : decode code 852 = .ok (.pop, 1) := dk_D_ok dLw33_ok 852 (.pop, 1) rfl
theorem dL_law_853 : decode code 853 = .ok (.aload_n 2, 1) := dk_D_ok dLw33_ok 853 (.aload_n 2, 1) rfl
theorem dL_law_854 : decode code 854 = .ok (.aload_n 0, 1) := dk_D_ok dLw33_ok 854 (.aload_n 0, 1) rfl
theorem dL_law_855 : decode code 855 = .ok (.iload_n 3, 1) := dk_D_ok dLw33_ok 855 (.iload_n 3, 1) rfl
def dLw34 : List (Nat × Instr × Nat) := [(856, .iconst 1, 1), (857, .iadd, 1), (858, .iaload, 1), (859, .aload_n 0, 1), (860, .iload_n 3, 1), (861, .iconst 2, 1), (862, .iadd, 1), (863, .iaload, 1), (864, .invokevirtual 112, 3), (867, .pop, 1), (868, .goto 503, 3), (871, .aload_n 1, 1), (872, .invokevirtual 113, 3), (875, .pop, 1), (876, .aload_n 2, 1), (877, .invokevirtual 116, 3)]
theorem dLw34_ok : dLw34.all (dk_q code) = true := by decide +kernel
theorem dL_law_856 : decode code 856 = .ok (.iconst 1, 1) := dk_D_ok dLw34_ok 856 (.iconst 1, 1) rfl
theorem dL_law_857 : decode code 857 = .ok (.iadd, 1) := dk_D_ok dLw34_ok 857 (.iadd, 1) rfl
theorem dL_law_858 : decode code 858 = .ok (.iaload, 1) := dk_D_ok dLw34_ok 858 (.iaload, 1) rfl
theorem dL_law_859 : decode code 859 = .ok (.aload_n 0, 1) := dk_D_ok dLw34_ok 859 (.aload_n 0, 1) rfl
theorem dL_law_860 : decode code 860 = .ok (.iload_n 3, 1) := dk_D_ok dLw34_ok 860 (.iload_n 3, 1) rfl
theorem dL_law_861 : decode code 861 = .ok (.iconst 2, 1) := dk_D_ok dLw34_ok 861 (.iconst 2, 1) rfl
theorem dL_law_862 : decode code 862 = .ok (.iadd, 1) := dk_D_ok dLw34_ok 862 (.iadd, 1) rfl
theorem dL_law_863 : decode code 863 = .ok (.iaload, 1) := dk_D_ok dLw34_ok 863 (.iaload, 1) rfl
theorem dL_law_864 : decode code 864 = .ok (.invokevirtual 112, 3) := dk_D_ok dLw34_ok 864 (.invokevirtual 112, 3) rfl
theorem dL_law_867 : decode code 867 = .ok (.pop, 1) := dk_D_ok dLw34_ok 867 (.pop, 1) rfl
theorem dL_law_868 : decode code 868 = .ok (.goto 503, 3) := dk_D_ok dLw34_ok 868 (.goto 503, 3) rfl
theorem dL_law_871 : decode code 871 = .ok (.aload_n 1, 1) := dk_D_ok dLw34_ok 871 (.aload_n 1, 1) rfl
theorem dL_law_872 : decode code 872 = .ok (.invokevirtual 113, 3) := dk_D_ok dLw34_ok 872 (.invokevirtual 113, 3) rfl
theorem dL_law_875 : decode code 875 = .ok (.pop, 1) := dk_D_ok dLw34_ok 875 (.pop, 1) rfl
theorem dL_law_876 : decode code 876 = .ok (.aload_n 2, 1) := dk_D_ok dLw34_ok 876 (.aload_n 2, 1) rfl
theorem dL_law_877 : decode code 877 = .ok (.invokevirtual 116, 3) := dk_D_ok dLw34_ok 877 (.invokevirtual 116, 3) rfl
def dLw35 : List (Nat × Instr × Nat) := [(880, .pop, 1), (881, .goto 490, 3), (884, .aload_n 1, 1), (885, .aload_n 0, 1), (886, .iload_n 3, 1), (887, .iconst 1, 1), (888, .iadd, 1), (889, .iaload, 1), (890, .aload_n 0, 1), (891, .iload_n 3, 1), (892, .iconst 2, 1), (893, .iadd, 1), (894, .iaload, 1), (895, .invokevirtual 117, 3), (898, .pop, 1), (899, .aload_n 2, 1)]
theorem dLw35_ok : dLw35.all (dk_q code) = true := by decide +kernel
theorem dL_law_880 : decode code 880 = .ok (.pop, 1) := dk_D_ok dLw35_ok 880 (.pop, 1) rfl
theorem dL_law_881 : decode code 881 = .ok (.goto 490, 3) := dk_D_ok dLw35_ok 881 (.goto 490, 3) rfl
theorem dL_law_884 : decode code 884 = .ok (.aload_n 1, 1) := dk_D_ok dLw35_ok 884 (.aload_n 1, 1) rfl
theorem dL_law_885 : decode code 885 = .ok (.aload_n 0, 1) := dk_D_ok dLw35_ok 885 (.aload_n 0, 1) rfl
theorem dL_law_886 : decode code 886 = .ok (.iload_n 3, 1) := dk_D_ok dLw35_ok 886 (.iload_n 3, 1) rfl
theorem dL_law_887 : decode code 887 = .ok (.iconst 1, 1) := dk_D_ok dLw35_ok 887 (.iconst 1, 1) rfl
theorem dL_law_888 : decode code 888 = .ok (.iadd, 1) := dk_D_ok dLw35_ok 888 (.iadd, 1) rfl
theorem dL_law_889 : decode code 889 = .ok (.iaload, 1) := dk_D_ok dLw35_ok 889 (.iaload, 1) rfl
theorem dL_law_890 : decode code 890 = .ok (.aload_n 0, 1) := dk_D_ok dLw35_ok 890 (.aload_n 0, 1) rfl
theorem dL_law_891 : decode code 891 = .ok (.iload_n 3, 1) := dk_D_ok dLw35_ok 891 (.iload_n 3, 1) rfl
theorem dL_law_892 : decode code 892 = .ok (.iconst 2, 1) := dk_D_ok dLw35_ok 892 (.iconst 2, 1) rfl
theorem dL_law_893 : decode code 893 = .ok (.iadd, 1) := dk_D_ok dLw35_ok 893 (.iadd, 1) rfl
theorem dL_law_894 : decode code 894 = .ok (.iaload, 1) := dk_D_ok dLw35_ok 894 (.iaload, 1) rfl
theorem dL_law_895 : decode code 895 = .ok (.invokevirtual 117, 3) := dk_D_ok dLw35_ok 895 (.invokevirtual 117, 3) rfl
theorem dL_law_898 : decode code 898 = .ok (.pop, 1) := dk_D_ok dLw35_ok 898 (.pop, 1) rfl
theorem dL_law_899 : decode code 899 = .ok (.aload_n 2, 1) := dk_D_ok dLw35_ok 899 (.aload_n 2, 1) rfl
def dLw36 : List (Nat × Instr × Nat) := [(900, .aload_n 0, 1), (901, .iload_n 3, 1), (902, .iconst 1, 1), (903, .iadd, 1), (904, .iaload, 1), (905, .aload_n 0, 1), (906, .iload_n 3, 1), (907, .iconst 2, 1), (908, .iadd, 1), (909, .iaload, 1), (910, .invokevirtual 120, 3), (913, .pop, 1), (914, .goto 457, 3), (917, .aload_n 1, 1), (918, .aload_n 0, 1), (919, .iload_n 3, 1)]
theorem dLw36_ok : dLw36.all (dk_q code) = true := by decide +kernel
theorem dL_law_900 : decode code 900 = .ok (.aload_n 0, 1) := dk_D_ok dLw36_ok 900 (.aload_n 0, 1) rfl
theorem dL_law_901 : decode code 901 = .ok (.iload_n 3, 1) := dk_D_ok dLw36_ok 901 (.iload_n 3, 1) rfl
theorem dL_law_902 : decode code 902 = .ok (.iconst 1, 1) := dk_D_ok dLw36_ok 902 (.iconst 1, 1) rfl
theorem dL_law_903 : decode code 903 = .ok (.iadd, 1) := dk_D_ok dLw36_ok 903 (.iadd, 1) rfl
theorem dL_law_904 : decode code 904 = .ok (.iaload, 1) := dk_D_ok dLw36_ok 904 (.iaload, 1) rfl
theorem dL_law_905 : decode code 905 = .ok (.aload_n 0, 1) := dk_D_ok dLw36_ok 905 (.aload_n 0, 1) rfl
theorem dL_law_906 : decode code 906 = .ok (.iload_n 3, 1) := dk_D_ok dLw36_ok 906 (.iload_n 3, 1) rfl
theorem dL_law_907 : decode code 907 = .ok (.iconst 2, 1) := dk_D_ok dLw36_ok 907 (.iconst 2, 1) rfl
theorem dL_law_908 : decode code 908 = .ok (.iadd, 1) := dk_D_ok dLw36_ok 908 (.iadd, 1) rfl
theorem dL_law_909 : decode code 909 = .ok (.iaload, 1) := dk_D_ok dLw36_ok 909 (.iaload, 1) rfl
theorem dL_law_910 : decode code 910 = .ok (.invokevirtual 120, 3) := dk_D_ok dLw36_ok 910 (.invokevirtual 120, 3) rfl
theorem dL_law_913 : decode code 913 = .ok (.pop, 1) := dk_D_ok dLw36_ok 913 (.pop, 1) rfl
theorem dL_law_914 : decode code 914 = .ok (.goto 457, 3) := dk_D_ok dLw36_ok 914 (.goto 457, 3) rfl
theorem dL_law_917 : decode code 917 = .ok (.aload_n 1, 1) := dk_D_ok dLw36_ok 917 (.aload_n 1, 1) rfl
theorem dL_law_918 : decode code 918 = .ok (.aload_n 0, 1) := dk_D_ok dLw36_ok 918 (.aload_n 0, 1) rfl
theorem dL_law_919 : decode code 919 = .ok (.iload_n 3, 1) := dk_D_ok dLw36_ok 919 (.iload_n 3, 1) rfl
def dLw37 : List (Nat × Instr × Nat) := [(920, .iconst 1, 1), (921, .iadd, 1), (922, .iaload, 1), (923, .invokevirtual 121, 3), (926, .pop, 1), (927, .aload_n 2, 1), (928, .aload_n 0, 1), (929, .iload_n 3, 1), (930, .iconst 1, 1), (931, .iadd, 1), (932, .iaload, 1), (933, .invokevirtual 124, 3), (936, .pop, 1), (937, .goto 434, 3), (940, .aload_n 1, 1), (941, .aload_n 0, 1)]
theorem dLw37_ok : dLw37.all (dk_q code) = true := by decide +kernel
theorem dL_law_920 : decode code 920 = .ok (.iconst 1, 1) := dk_D_ok dLw37_ok 920 (.iconst 1, 1) rfl
theorem dL_law_921 : decode code 921 = .ok (.iadd, 1) := dk_D_ok dLw37_ok 921 (.iadd, 1) rfl
theorem dL_law_922 : decode code 922 = .ok (.iaload, 1) := dk_D_ok dLw37_ok 922 (.iaload, 1) rfl
theorem dL_law_923 : decode code 923 = .ok (.invokevirtual 121, 3) := dk_D_ok dLw37_ok 923 (.invokevirtual 121, 3) rfl
theorem dL_law_926 : decode code 926 = .ok (.pop, 1) := dk_D_ok dLw37_ok 926 (.pop, 1) rfl
theorem dL_law_927 : decode code 927 = .ok (.aload_n 2, 1) := dk_D_ok dLw37_ok 927 (.aload_n 2, 1) rfl
theorem dL_law_928 : decode code 928 = .ok (.aload_n 0, 1) := dk_D_ok dLw37_ok 928 (.aload_n 0, 1) rfl
theorem dL_law_929 : decode code 929 = .ok (.iload_n 3, 1) := dk_D_ok dLw37_ok 929 (.iload_n 3, 1) rfl
theorem dL_law_930 : decode code 930 = .ok (.iconst 1, 1) := dk_D_ok dLw37_ok 930 (.iconst 1, 1) rfl
theorem dL_law_931 : decode code 931 = .ok (.iadd, 1) := dk_D_ok dLw37_ok 931 (.iadd, 1) rfl
theorem dL_law_932 : decode code 932 = .ok (.iaload, 1) := dk_D_ok dLw37_ok 932 (.iaload, 1) rfl
theorem dL_law_933 : decode code 933 = .ok (.invokevirtual 124, 3) := dk_D_ok dLw37_ok 933 (.invokevirtual 124, 3) rfl
theorem dL_law_936 : decode code 936 = .ok (.pop, 1) := dk_D_ok dLw37_ok 936 (.pop, 1) rfl
theorem dL_law_937 : decode code 937 = .ok (.goto 434, 3) := dk_D_ok dLw37_ok 937 (.goto 434, 3) rfl
theorem dL_law_940 : decode code 940 = .ok (.aload_n 1, 1) := dk_D_ok dLw37_ok 940 (.aload_n 1, 1) rfl
theorem dL_law_941 : decode code 941 = .ok (.aload_n 0, 1) := dk_D_ok dLw37_ok 941 (.aload_n 0, 1) rfl
def dLw38 : List (Nat × Instr × Nat) := [(942, .iload_n 3, 1), (943, .iconst 1, 1), (944, .iadd, 1), (945, .iaload, 1), (946, .invokevirtual 125, 3), (949, .pop, 1), (950, .aload_n 2, 1), (951, .aload_n 0, 1), (952, .iload_n 3, 1), (953, .iconst 1, 1), (954, .iadd, 1), (955, .iaload, 1), (956, .invokevirtual 128, 3), (959, .pop, 1), (960, .goto 411, 3), (963, .aload_n 1, 1)]
theorem dLw38_ok : dLw38.all (dk_q code) = true := by decide +kernel
theorem dL_law_942 : decode code 942 = .ok (.iload_n 3, 1) := dk_D_ok dLw38_ok 942 (.iload_n 3, 1) rfl
theorem dL_law_943 : decode code 943 = .ok (.iconst 1, 1) := dk_D_ok dLw38_ok 943 (.iconst 1, 1) rfl
theorem dL_law_944 : decode code 944 = .ok (.iadd, 1) := dk_D_ok dLw38_ok 944 (.iadd, 1) rfl
theorem dL_law_945 : decode code 945 = .ok (.iaload, 1) := dk_D_ok dLw38_ok 945 (.iaload, 1) rfl
theorem dL_law_946 : decode code 946 = .ok (.invokevirtual 125, 3) := dk_D_ok dLw38_ok 946 (.invokevirtual 125, 3) rfl
theorem dL_law_949 : decode code 949 = .ok (.pop, 1) := dk_D_ok dLw38_ok 949 (.pop, 1) rfl
theorem dL_law_950 : decode code 950 = .ok (.aload_n 2, 1) := dk_D_ok dLw38_ok 950 (.aload_n 2, 1) rfl
theorem dL_law_951 : decode code 951 = .ok (.aload_n 0, 1) := dk_D_ok dLw38_ok 951 (.aload_n 0, 1) rfl
theorem dL_law_952 : decode code 952 = .ok (.iload_n 3, 1) := dk_D_ok dLw38_ok 952 (.iload_n 3, 1) rfl
theorem dL_law_953 : decode code 953 = .ok (.iconst 1, 1) := dk_D_ok dLw38_ok 953 (.iconst 1, 1) rfl
theorem dL_law_954 : decode code 954 = .ok (.iadd, 1) := dk_D_ok dLw38_ok 954 (.iadd, 1) rfl
theorem dL_law_955 : decode code 955 = .ok (.iaload, 1) := dk_D_ok dLw38_ok 955 (.iaload, 1) rfl
theorem dL_law_956 : decode code 956 = .ok (.invokevirtual 128, 3) := dk_D_ok dLw38_ok 956 (.invokevirtual 128, 3) rfl
theorem dL_law_959 : decode code 959 = .ok (.pop, 1) := dk_D_ok dLw38_ok 959 (.pop, 1) rfl
theorem dL_law_960 : decode code 960 = .ok (.goto 411, 3) := dk_D_ok dLw38_ok 960 (.goto 411, 3) rfl
theorem dL_law_963 : decode code 963 = .ok (.aload_n 1, 1) := dk_D_ok dLw38_ok 963 (.aload_n 1, 1) rfl
def dLw39 : List (Nat × Instr × Nat) := [(964, .aload_n 0, 1), (965, .iload_n 3, 1), (966, .iconst 1, 1), (967, .iadd, 1), (968, .iaload, 1), (969, .aload_n 0, 1), (970, .iload_n 3, 1), (971, .iconst 2, 1), (972, .iadd, 1), (973, .iaload, 1), (974, .invokevirtual 129, 3), (977, .pop, 1), (978, .aload_n 2, 1), (979, .aload_n 0, 1), (980, .iload_n 3, 1), (981, .iconst 1, 1)]
theorem dLw39_ok : dLw39.all (dk_q code) = true := by decide +kernel
theorem dL_law_964 : decode code 964 = .ok (.aload_n 0, 1) := dk_D_ok dLw39_ok 964 (.aload_n 0, 1) rfl
theorem dL_law_965 : decode code 965 = .ok (.iload_n 3, 1) := dk_D_ok dLw39_ok 965 (.iload_n 3, 1) rfl
theorem dL_law_966 : decode code 966 = .ok (.iconst 1, 1) := dk_D_ok dLw39_ok 966 (.iconst 1, 1) rfl
theorem dL_law_967 : decode code 967 = .ok (.iadd, 1) := dk_D_ok dLw39_ok 967 (.iadd, 1) rfl
theorem dL_law_968 : decode code 968 = .ok (.iaload, 1) := dk_D_ok dLw39_ok 968 (.iaload, 1) rfl
theorem dL_law_969 : decode code 969 = .ok (.aload_n 0, 1) := dk_D_ok dLw39_ok 969 (.aload_n 0, 1) rfl
theorem dL_law_970 : decode code 970 = .ok (.iload_n 3, 1) := dk_D_ok dLw39_ok 970 (.iload_n 3, 1) rfl
theorem dL_law_971 : decode code 971 = .ok (.iconst 2, 1) := dk_D_ok dLw39_ok 971 (.iconst 2, 1) rfl
theorem dL_law_972 : decode code 972 = .ok (.iadd, 1) := dk_D_ok dLw39_ok 972 (.iadd, 1) rfl
theorem dL_law_973 : decode code 973 = .ok (.iaload, 1) := dk_D_ok dLw39_ok 973 (.iaload, 1) rfl
theorem dL_law_974 : decode code 974 = .ok (.invokevirtual 129, 3) := dk_D_ok dLw39_ok 974 (.invokevirtual 129, 3) rfl
theorem dL_law_977 : decode code 977 = .ok (.pop, 1) := dk_D_ok dLw39_ok 977 (.pop, 1) rfl
theorem dL_law_978 : decode code 978 = .ok (.aload_n 2, 1) := dk_D_ok dLw39_ok 978 (.aload_n 2, 1) rfl
theorem dL_law_979 : decode code 979 = .ok (.aload_n 0, 1) := dk_D_ok dLw39_ok 979 (.aload_n 0, 1) rfl
theorem dL_law_980 : decode code 980 = .ok (.iload_n 3, 1) := dk_D_ok dLw39_ok 980 (.iload_n 3, 1) rfl
theorem dL_law_981 : decode code 981 = .ok (.iconst 1, 1) := dk_D_ok dLw39_ok 981 (.iconst 1, 1) rfl
def dLw40 : List (Nat × Instr × Nat) := [(982, .iadd, 1), (983, .iaload, 1), (984, .aload_n 0, 1), (985, .iload_n 3, 1), (986, .iconst 2, 1), (987, .iadd, 1), (988, .iaload, 1), (989, .invokevirtual 132, 3), (992, .pop, 1), (993, .goto 378, 3), (996, .aload_n 1, 1), (997, .aload_n 0, 1), (998, .iload_n 3, 1), (999, .iconst 1, 1), (1000, .iadd, 1), (1001, .iaload, 1)]
theorem dLw40_ok : dLw40.all (dk_q code) = true := by decide +kernel
theorem dL_law_982 : decode code 982 = .ok (.iadd, 1) := dk_D_ok dLw40_ok 982 (.iadd, 1) rfl
theorem dL_law_983 : decode code 983 = .ok (.iaload, 1) := dk_D_ok dLw40_ok 983 (.iaload, 1) rfl
theorem dL_law_984 : decode code 984 = .ok (.aload_n 0, 1) := dk_D_ok dLw40_ok 984 (.aload_n 0, 1) rfl
theorem dL_law_985 : decode code 985 = .ok (.iload_n 3, 1) := dk_D_ok dLw40_ok 985 (.iload_n 3, 1) rfl
theorem dL_law_986 : decode code 986 = .ok (.iconst 2, 1) := dk_D_ok dLw40_ok 986 (.iconst 2, 1) rfl
theorem dL_law_987 : decode code 987 = .ok (.iadd, 1) := dk_D_ok dLw40_ok 987 (.iadd, 1) rfl
theorem dL_law_988 : decode code 988 = .ok (.iaload, 1) := dk_D_ok dLw40_ok 988 (.iaload, 1) rfl
theorem dL_law_989 : decode code 989 = .ok (.invokevirtual 132, 3) := dk_D_ok dLw40_ok 989 (.invokevirtual 132, 3) rfl
theorem dL_law_992 : decode code 992 = .ok (.pop, 1) := dk_D_ok dLw40_ok 992 (.pop, 1) rfl
theorem dL_law_993 : decode code 993 = .ok (.goto 378, 3) := dk_D_ok dLw40_ok 993 (.goto 378, 3) rfl
theorem dL_law_996 : decode code 996 = .ok (.aload_n 1, 1) := dk_D_ok dLw40_ok 996 (.aload_n 1, 1) rfl
theorem dL_law_997 : decode code 997 = .ok (.aload_n 0, 1) := dk_D_ok dLw40_ok 997 (.aload_n 0, 1) rfl
theorem dL_law_998 : decode code 998 = .ok (.iload_n 3, 1) := dk_D_ok dLw40_ok 998 (.iload_n 3, 1) rfl
theorem dL_law_999 : decode code 999 = .ok (.iconst 1, 1) := dk_D_ok dLw40_ok 999 (.iconst 1, 1) rfl
theorem dL_law_1000 : decode code 1000 = .ok (.iadd, 1) := dk_D_ok dLw40_ok 1000 (.iadd, 1) rfl
theorem dL_law_1001 : decode code 1001 = .ok (.iaload, 1) := dk_D_ok dLw40_ok 1001 (.iaload, 1) rfl
def dLw41 : List (Nat × Instr × Nat) := [(1002, .aload_n 0, 1), (1003, .iload_n 3, 1), (1004, .iconst 2, 1), (1005, .iadd, 1), (1006, .iaload, 1), (1007, .invokevirtual 133, 3), (1010, .pop, 1), (1011, .aload_n 2, 1), (1012, .aload_n 0, 1), (1013, .iload_n 3, 1), (1014, .iconst 1, 1), (1015, .iadd, 1), (1016, .iaload, 1), (1017, .aload_n 0, 1), (1018, .iload_n 3, 1), (1019, .iconst 2, 1)]
theorem dLw41_ok : dLw41.all (dk_q code) = true := by decide +kernel
theorem dL_law_1002 : decode code 1002 = .ok (.aload_n 0, 1) := dk_D_ok dLw41_ok 1002 (.aload_n 0, 1) rfl
theorem dL_law_1003 : decode code 1003 = .ok (.iload_n 3, 1) := dk_D_ok dLw41_ok 1003 (.iload_n 3, 1) rfl
theorem dL_law_1004 : decode code 1004 = .ok (.iconst 2, 1) := dk_D_ok dLw41_ok 1004 (.iconst 2, 1) rfl
theorem dL_law_1005 : decode code 1005 = .ok (.iadd, 1) := dk_D_ok dLw41_ok 1005 (.iadd, 1) rfl
theorem dL_law_1006 : decode code 1006 = .ok (.iaload, 1) := dk_D_ok dLw41_ok 1006 (.iaload, 1) rfl
theorem dL_law_1007 : decode code 1007 = .ok (.invokevirtual 133, 3) := dk_D_ok dLw41_ok 1007 (.invokevirtual 133, 3) rfl
theorem dL_law_1010 : decode code 1010 = .ok (.pop, 1) := dk_D_ok dLw41_ok 1010 (.pop, 1) rfl
theorem dL_law_1011 : decode code 1011 = .ok (.aload_n 2, 1) := dk_D_ok dLw41_ok 1011 (.aload_n 2, 1) rfl
theorem dL_law_1012 : decode code 1012 = .ok (.aload_n 0, 1) := dk_D_ok dLw41_ok 1012 (.aload_n 0, 1) rfl
theorem dL_law_1013 : decode code 1013 = .ok (.iload_n 3, 1) := dk_D_ok dLw41_ok 1013 (.iload_n 3, 1) rfl
theorem dL_law_1014 : decode code 1014 = .ok (.iconst 1, 1) := dk_D_ok dLw41_ok 1014 (.iconst 1, 1) rfl
theorem dL_law_1015 : decode code 1015 = .ok (.iadd, 1) := dk_D_ok dLw41_ok 1015 (.iadd, 1) rfl
theorem dL_law_1016 : decode code 1016 = .ok (.iaload, 1) := dk_D_ok dLw41_ok 1016 (.iaload, 1) rfl
theorem dL_law_1017 : decode code 1017 = .ok (.aload_n 0, 1) := dk_D_ok dLw41_ok 1017 (.aload_n 0, 1) rfl
theorem dL_law_1018 : decode code 1018 = .ok (.iload_n 3, 1) := dk_D_ok dLw41_ok 1018 (.iload_n 3, 1) rfl
theorem dL_law_1019 : decode code 1019 = .ok (.iconst 2, 1) := dk_D_ok dLw41_ok 1019 (.iconst 2, 1) rfl
def dLw42 : List (Nat × Instr × Nat) := [(1020, .iadd, 1), (1021, .iaload, 1), (1022, .invokevirtual 136, 3), (1025, .pop, 1), (1026, .goto 345, 3), (1029, .aload_n 1, 1), (1030, .aload_n 0, 1), (1031, .iload_n 3, 1), (1032, .iconst 1, 1), (1033, .iadd, 1), (1034, .iaload, 1), (1035, .invokevirtual 137, 3), (1038, .pop, 1), (1039, .aload_n 2, 1), (1040, .aload_n 0, 1), (1041, .iload_n 3, 1)]
theorem dLw42_ok : dLw42.all (dk_q code) = true := by decide +kernel
theorem dL_law_1020 : decode code 1020 = .ok (.iadd, 1) := dk_D_ok dLw42_ok 1020 (.iadd, 1) rfl
theorem dL_law_1021 : decode code 1021 = .ok (.iaload, 1) := dk_D_ok dLw42_ok 1021 (.iaload, 1) rfl
theorem dL_law_1022 : decode code 1022 = .ok (.invokevirtual 136, 3) := dk_D_ok dLw42_ok 1022 (.invokevirtual 136, 3) rfl
theorem dL_law_1025 : decode code 1025 = .ok (.pop, 1) := dk_D_ok dLw42_ok 1025 (.pop, 1) rfl
theorem dL_law_1026 : decode code 1026 = .ok (.goto 345, 3) := dk_D_ok dLw42_ok 1026 (.goto 345, 3) rfl
theorem dL_law_1029 : decode code 1029 = .ok (.aload_n 1, 1) := dk_D_ok dLw42_ok 1029 (.aload_n 1, 1) rfl
theorem dL_law_1030 : decode code 1030 = .ok (.aload_n 0, 1) := dk_D_ok dLw42_ok 1030 (.aload_n 0, 1) rfl
theorem dL_law_1031 : decode code 1031 = .ok (.iload_n 3, 1) := dk_D_ok dLw42_ok 1031 (.iload_n 3, 1) rfl
theorem dL_law_1032 : decode code 1032 = .ok (.iconst 1, 1) := dk_D_ok dLw42_ok 1032 (.iconst 1, 1) rfl
theorem dL_law_1033 : decode code 1033 = .ok (.iadd, 1) := dk_D_ok dLw42_ok 1033 (.iadd, 1) rfl
theorem dL_law_1034 : decode code 1034 = .ok (.iaload, 1) := dk_D_ok dLw42_ok 1034 (.iaload, 1) rfl
theorem dL_law_1035 : decode code 1035 = .ok (.invokevirtual 137, 3) := dk_D_ok dLw42_ok 1035 (.invokevirtual 137, 3) rfl
theorem dL_law_1038 : decode code 1038 = .ok (.pop, 1) := dk_D_ok dLw42_ok 1038 (.pop, 1) rfl
theorem dL_law_1039 : decode code 1039 = .ok (.aload_n 2, 1) := dk_D_ok dLw42_ok 1039 (.aload_n 2, 1) rfl
theorem dL_law_1040 : decode code 1040 = .ok (.aload_n 0, 1) := dk_D_ok dLw42_ok 1040 (.aload_n 0, 1) rfl
theorem dL_law_1041 : decode code 1041 = .ok (.iload_n 3, 1) := dk_D_ok dLw42_ok 1041 (.iload_n 3, 1) rfl
def dLw43 : List (Nat × Instr × Nat) := [(1042, .iconst 1, 1), (1043, .iadd, 1), (1044, .iaload, 1), (1045, .invokevirtual 140, 3), (1048, .pop, 1), (1049, .goto 322, 3), (1052, .aload_n 1, 1), (1053, .aload_n 0, 1), (1054, .iload_n 3, 1), (1055, .iconst 1, 1), (1056, .iadd, 1), (1057, .iaload, 1), (1058, .aload_n 0, 1), (1059, .iload_n 3, 1), (1060, .iconst 2, 1), (1061, .iadd, 1)]
theorem dLw43_ok : dLw43.all (dk_q code) = true := by decide +kernel
theorem dL_law_1042 : decode code 1042 = .ok (.iconst 1, 1) := dk_D_ok dLw43_ok 1042 (.iconst 1, 1) rfl
theorem dL_law_1043 : decode code 1043 = .ok (.iadd, 1) := dk_D_ok dLw43_ok 1043 (.iadd, 1) rfl
theorem dL_law_1044 : decode code 1044 = .ok (.iaload, 1) := dk_D_ok dLw43_ok 1044 (.iaload, 1) rfl
theorem dL_law_1045 : decode code 1045 = .ok (.invokevirtual 140, 3) := dk_D_ok dLw43_ok 1045 (.invokevirtual 140, 3) rfl
theorem dL_law_1048 : decode code 1048 = .ok (.pop, 1) := dk_D_ok dLw43_ok 1048 (.pop, 1) rfl
theorem dL_law_1049 : decode code 1049 = .ok (.goto 322, 3) := dk_D_ok dLw43_ok 1049 (.goto 322, 3) rfl
theorem dL_law_1052 : decode code 1052 = .ok (.aload_n 1, 1) := dk_D_ok dLw43_ok 1052 (.aload_n 1, 1) rfl
theorem dL_law_1053 : decode code 1053 = .ok (.aload_n 0, 1) := dk_D_ok dLw43_ok 1053 (.aload_n 0, 1) rfl
theorem dL_law_1054 : decode code 1054 = .ok (.iload_n 3, 1) := dk_D_ok dLw43_ok 1054 (.iload_n 3, 1) rfl
theorem dL_law_1055 : decode code 1055 = .ok (.iconst 1, 1) := dk_D_ok dLw43_ok 1055 (.iconst 1, 1) rfl
theorem dL_law_1056 : decode code 1056 = .ok (.iadd, 1) := dk_D_ok dLw43_ok 1056 (.iadd, 1) rfl
theorem dL_law_1057 : decode code 1057 = .ok (.iaload, 1) := dk_D_ok dLw43_ok 1057 (.iaload, 1) rfl
theorem dL_law_1058 : decode code 1058 = .ok (.aload_n 0, 1) := dk_D_ok dLw43_ok 1058 (.aload_n 0, 1) rfl
theorem dL_law_1059 : decode code 1059 = .ok (.iload_n 3, 1) := dk_D_ok dLw43_ok 1059 (.iload_n 3, 1) rfl
theorem dL_law_1060 : decode code 1060 = .ok (.iconst 2, 1) := dk_D_ok dLw43_ok 1060 (.iconst 2, 1) rfl
theorem dL_law_1061 : decode code 1061 = .ok (.iadd, 1) := dk_D_ok dLw43_ok 1061 (.iadd, 1) rfl
def dLw44 : List (Nat × Instr × Nat) := [(1062, .iaload, 1), (1063, .aload_n 0, 1), (1064, .iload_n 3, 1), (1065, .iconst 3, 1), (1066, .iadd, 1), (1067, .iaload, 1), (1068, .invokevirtual 141, 3), (1071, .pop, 1), (1072, .aload_n 2, 1), (1073, .aload_n 0, 1), (1074, .iload_n 3, 1), (1075, .iconst 1, 1), (1076, .iadd, 1), (1077, .iaload, 1), (1078, .aload_n 0, 1), (1079, .iload_n 3, 1)]
theorem dLw44_ok : dLw44.all (dk_q code) = true := by decide +kernel
theorem dL_law_1062 : decode code 1062 = .ok (.iaload, 1) := dk_D_ok dLw44_ok 1062 (.iaload, 1) rfl
theorem dL_law_1063 : decode code 1063 = .ok (.aload_n 0, 1) := dk_D_ok dLw44_ok 1063 (.aload_n 0, 1) rfl
theorem dL_law_1064 : decode code 1064 = .ok (.iload_n 3, 1) := dk_D_ok dLw44_ok 1064 (.iload_n 3, 1) rfl
theorem dL_law_1065 : decode code 1065 = .ok (.iconst 3, 1) := dk_D_ok dLw44_ok 1065 (.iconst 3, 1) rfl
theorem dL_law_1066 : decode code 1066 = .ok (.iadd, 1) := dk_D_ok dLw44_ok 1066 (.iadd, 1) rfl
theorem dL_law_1067 : decode code 1067 = .ok (.iaload, 1) := dk_D_ok dLw44_ok 1067 (.iaload, 1) rfl
theorem dL_law_1068 : decode code 1068 = .ok (.invokevirtual 141, 3) := dk_D_ok dLw44_ok 1068 (.invokevirtual 141, 3) rfl
theorem dL_law_1071 : decode code 1071 = .ok (.pop, 1) := dk_D_ok dLw44_ok 1071 (.pop, 1) rfl
theorem dL_law_1072 : decode code 1072 = .ok (.aload_n 2, 1) := dk_D_ok dLw44_ok 1072 (.aload_n 2, 1) rfl
theorem dL_law_1073 : decode code 1073 = .ok (.aload_n 0, 1) := dk_D_ok dLw44_ok 1073 (.aload_n 0, 1) rfl
theorem dL_law_1074 : decode code 1074 = .ok (.iload_n 3, 1) := dk_D_ok dLw44_ok 1074 (.iload_n 3, 1) rfl
theorem dL_law_1075 : decode code 1075 = .ok (.iconst 1, 1) := dk_D_ok dLw44_ok 1075 (.iconst 1, 1) rfl
theorem dL_law_1076 : decode code 1076 = .ok (.iadd, 1) := dk_D_ok dLw44_ok 1076 (.iadd, 1) rfl
theorem dL_law_1077 : decode code 1077 = .ok (.iaload, 1) := dk_D_ok dLw44_ok 1077 (.iaload, 1) rfl
theorem dL_law_1078 : decode code 1078 = .ok (.aload_n 0, 1) := dk_D_ok dLw44_ok 1078 (.aload_n 0, 1) rfl
theorem dL_law_1079 : decode code 1079 = .ok (.iload_n 3, 1) := dk_D_ok dLw44_ok 1079 (.iload_n 3, 1) rfl
def dLw45 : List (Nat × Instr × Nat) := [(1080, .iconst 2, 1), (1081, .iadd, 1), (1082, .iaload, 1), (1083, .aload_n 0, 1), (1084, .iload_n 3, 1), (1085, .iconst 3, 1), (1086, .iadd, 1), (1087, .iaload, 1), (1088, .invokevirtual 145, 3), (1091, .pop, 1), (1092, .goto 279, 3), (1095, .aload_n 1, 1), (1096, .invokevirtual 146, 3), (1099, .pop, 1), (1100, .aload_n 2, 1), (1101, .invokevirtual 149, 3)]
theorem dLw45_ok : dLw45.all (dk_q code) = true := by decide +kernel
theorem dL_law_1080 : decode code 1080 = .ok (.iconst 2, 1) := dk_D_ok dLw45_ok 1080 (.iconst 2, 1) rfl
theorem dL_law_1081 : decode code 1081 = .ok (.iadd, 1) := dk_D_ok dLw45_ok 1081 (.iadd, 1) rfl
theorem dL_law_1082 : decode code 1082 = .ok (.iaload, 1) := dk_D_ok dLw45_ok 1082 (.iaload, 1) rfl
theorem dL_law_1083 : decode code 1083 = .ok (.aload_n 0, 1) := dk_D_ok dLw45_ok 1083 (.aload_n 0, 1) rfl
theorem dL_law_1084 : decode code 1084 = .ok (.iload_n 3, 1) := dk_D_ok dLw45_ok 1084 (.iload_n 3, 1) rfl
theorem dL_law_1085 : decode code 1085 = .ok (.iconst 3, 1) := dk_D_ok dLw45_ok 1085 (.iconst 3, 1) rfl
theorem dL_law_1086 : decode code 1086 = .ok (.iadd, 1) := dk_D_ok dLw45_ok 1086 (.iadd, 1) rfl
theorem dL_law_1087 : decode code 1087 = .ok (.iaload, 1) := dk_D_ok dLw45_ok 1087 (.iaload, 1) rfl
theorem dL_law_1088 : decode code 1088 = .ok (.invokevirtual 145, 3) := dk_D_ok dLw45_ok 1088 (.invokevirtual 145, 3) rfl
theorem dL_law_1091 : decode code 1091 = .ok (.pop, 1) := dk_D_ok dLw45_ok 1091 (.pop, 1) rfl
theorem dL_law_1092 : decode code 1092 = .ok (.goto 279, 3) := dk_D_ok dLw45_ok 1092 (.goto 279, 3) rfl
theorem dL_law_1095 : decode code 1095 = .ok (.aload_n 1, 1) := dk_D_ok dLw45_ok 1095 (.aload_n 1, 1) rfl
theorem dL_law_1096 : decode code 1096 = .ok (.invokevirtual 146, 3) := dk_D_ok dLw45_ok 1096 (.invokevirtual 146, 3) rfl
theorem dL_law_1099 : decode code 1099 = .ok (.pop, 1) := dk_D_ok dLw45_ok 1099 (.pop, 1) rfl
theorem dL_law_1100 : decode code 1100 = .ok (.aload_n 2, 1) := dk_D_ok dLw45_ok 1100 (.aload_n 2, 1) rfl
theorem dL_law_1101 : decode code 1101 = .ok (.invokevirtual 149, 3) := dk_D_ok dLw45_ok 1101 (.invokevirtual 149, 3) rfl
def dLw46 : List (Nat × Instr × Nat) := [(1104, .pop, 1), (1105, .goto 266, 3), (1108, .aload_n 1, 1), (1109, .aload_n 0, 1), (1110, .iload_n 3, 1), (1111, .iconst 1, 1), (1112, .iadd, 1), (1113, .iaload, 1), (1114, .aload_n 0, 1), (1115, .iload_n 3, 1), (1116, .iconst 2, 1), (1117, .iadd, 1), (1118, .iaload, 1), (1119, .aload_n 0, 1), (1120, .iload_n 3, 1), (1121, .iconst 3, 1)]
theorem dLw46_ok : dLw46.all (dk_q code) = true := by decide +kernel
theorem dL_law_1104 : decode code 1104 = .ok (.pop, 1) := dk_D_ok dLw46_ok 1104 (.pop, 1) rfl
theorem dL_law_1105 : decode code 1105 = .ok (.goto 266, 3) := dk_D_ok dLw46_ok 1105 (.goto 266, 3) rfl
theorem dL_law_1108 : decode code 1108 = .ok (.aload_n 1, 1) := dk_D_ok dLw46_ok 1108 (.aload_n 1, 1) rfl
theorem dL_law_1109 : decode code 1109 = .ok (.aload_n 0, 1) := dk_D_ok dLw46_ok 1109 (.aload_n 0, 1) rfl
theorem dL_law_1110 : decode code 1110 = .ok (.iload_n 3, 1) := dk_D_ok dLw46_ok 1110 (.iload_n 3, 1) rfl
theorem dL_law_1111 : decode code 1111 = .ok (.iconst 1, 1) := dk_D_ok dLw46_ok 1111 (.iconst 1, 1) rfl
theorem dL_law_1112 : decode code 1112 = .ok (.iadd, 1) := dk_D_ok dLw46_ok 1112 (.iadd, 1) rfl
theorem dL_law_1113 : decode code 1113 = .ok (.iaload, 1) := dk_D_ok dLw46_ok 1113 (.iaload, 1) rfl
theorem dL_law_1114 : decode code 1114 = .ok (.aload_n 0, 1) := dk_D_ok dLw46_ok 1114 (.aload_n 0, 1) rfl
theorem dL_law_1115 : decode code 1115 = .ok (.iload_n 3, 1) := dk_D_ok dLw46_ok 1115 (.iload_n 3, 1) rfl
theorem dL_law_1116 : decode code 1116 = .ok (.iconst 2, 1) := dk_D_ok dLw46_ok 1116 (.iconst 2, 1) rfl
theorem dL_law_1117 : decode code 1117 = .ok (.iadd, 1) := dk_D_ok dLw46_ok 1117 (.iadd, 1) rfl
theorem dL_law_1118 : decode code 1118 = .ok (.iaload, 1) := dk_D_ok dLw46_ok 1118 (.iaload, 1) rfl
theorem dL_law_1119 : decode code 1119 = .ok (.aload_n 0, 1) := dk_D_ok dLw46_ok 1119 (.aload_n 0, 1) rfl
theorem dL_law_1120 : decode code 1120 = .ok (.iload_n 3, 1) := dk_D_ok dLw46_ok 1120 (.iload_n 3, 1) rfl
theorem dL_law_1121 : decode code 1121 = .ok (.iconst 3, 1) := dk_D_ok dLw46_ok 1121 (.iconst 3, 1) rfl
def dLw47 : List (Nat × Instr × Nat) := [(1122, .iadd, 1), (1123, .iaload, 1), (1124, .invokevirtual 150, 3), (1127, .pop, 1), (1128, .aload_n 2, 1), (1129, .aload_n 0, 1), (1130, .iload_n 3, 1), (1131, .iconst 1, 1), (1132, .iadd, 1), (1133, .iaload, 1), (1134, .aload_n 0, 1), (1135, .iload_n 3, 1), (1136, .iconst 2, 1), (1137, .iadd, 1), (1138, .iaload, 1), (1139, .aload_n 0, 1)]
theorem dLw47_ok : dLw47.all (dk_q code) = true := by decide +kernel
theorem dL_law_1122 : decode code 1122 = .ok (.iadd, 1) := dk_D_ok dLw47_ok 1122 (.iadd, 1) rfl
theorem dL_law_1123 : decode code 1123 = .ok (.iaload, 1) := dk_D_ok dLw47_ok 1123 (.iaload, 1) rfl
theorem dL_law_1124 : decode code 1124 = .ok (.invokevirtual 150, 3) := dk_D_ok dLw47_ok 1124 (.invokevirtual 150, 3) rfl
theorem dL_law_1127 : decode code 1127 = .ok (.pop, 1) := dk_D_ok dLw47_ok 1127 (.pop, 1) rfl
theorem dL_law_1128 : decode code 1128 = .ok (.aload_n 2, 1) := dk_D_ok dLw47_ok 1128 (.aload_n 2, 1) rfl
theorem dL_law_1129 : decode code 1129 = .ok (.aload_n 0, 1) := dk_D_ok dLw47_ok 1129 (.aload_n 0, 1) rfl
theorem dL_law_1130 : decode code 1130 = .ok (.iload_n 3, 1) := dk_D_ok dLw47_ok 1130 (.iload_n 3, 1) rfl
theorem dL_law_1131 : decode code 1131 = .ok (.iconst 1, 1) := dk_D_ok dLw47_ok 1131 (.iconst 1, 1) rfl
theorem dL_law_1132 : decode code 1132 = .ok (.iadd, 1) := dk_D_ok dLw47_ok 1132 (.iadd, 1) rfl
theorem dL_law_1133 : decode code 1133 = .ok (.iaload, 1) := dk_D_ok dLw47_ok 1133 (.iaload, 1) rfl
theorem dL_law_1134 : decode code 1134 = .ok (.aload_n 0, 1) := dk_D_ok dLw47_ok 1134 (.aload_n 0, 1) rfl
theorem dL_law_1135 : decode code 1135 = .ok (.iload_n 3, 1) := dk_D_ok dLw47_ok 1135 (.iload_n 3, 1) rfl
theorem dL_law_1136 : decode code 1136 = .ok (.iconst 2, 1) := dk_D_ok dLw47_ok 1136 (.iconst 2, 1) rfl
theorem dL_law_1137 : decode code 1137 = .ok (.iadd, 1) := dk_D_ok dLw47_ok 1137 (.iadd, 1) rfl
theorem dL_law_1138 : decode code 1138 = .ok (.iaload, 1) := dk_D_ok dLw47_ok 1138 (.iaload, 1) rfl
theorem dL_law_1139 : decode code 1139 = .ok (.aload_n 0, 1) := dk_D_ok dLw47_ok 1139 (.aload_n 0, 1) rfl
def dLw48 : List (Nat × Instr × Nat) := [(1140, .iload_n 3, 1), (1141, .iconst 3, 1), (1142, .iadd, 1), (1143, .iaload, 1), (1144, .invokevirtual 153, 3), (1147, .pop, 1), (1148, .goto 223, 3), (1151, .aload_n 1, 1), (1152, .aload_n 0, 1), (1153, .iload_n 3, 1), (1154, .iconst 1, 1), (1155, .iadd, 1), (1156, .iaload, 1), (1157, .aload_n 0, 1), (1158, .iload_n 3, 1), (1159, .iconst 2, 1)]
theorem dLw48_ok : dLw48.all (dk_q code) = true := by decide +kernel
theorem dL_law_1140 : decode code 1140 = .ok (.iload_n 3, 1) := dk_D_ok dLw48_ok 1140 (.iload_n 3, 1) rfl
theorem dL_law_1141 : decode code 1141 = .ok (.iconst 3, 1) := dk_D_ok dLw48_ok 1141 (.iconst 3, 1) rfl
theorem dL_law_1142 : decode code 1142 = .ok (.iadd, 1) := dk_D_ok dLw48_ok 1142 (.iadd, 1) rfl
theorem dL_law_1143 : decode code 1143 = .ok (.iaload, 1) := dk_D_ok dLw48_ok 1143 (.iaload, 1) rfl
theorem dL_law_1144 : decode code 1144 = .ok (.invokevirtual 153, 3) := dk_D_ok dLw48_ok 1144 (.invokevirtual 153, 3) rfl
theorem dL_law_1147 : decode code 1147 = .ok (.pop, 1) := dk_D_ok dLw48_ok 1147 (.pop, 1) rfl
theorem dL_law_1148 : decode code 1148 = .ok (.goto 223, 3) := dk_D_ok dLw48_ok 1148 (.goto 223, 3) rfl
theorem dL_law_1151 : decode code 1151 = .ok (.aload_n 1, 1) := dk_D_ok dLw48_ok 1151 (.aload_n 1, 1) rfl
theorem dL_law_1152 : decode code 1152 = .ok (.aload_n 0, 1) := dk_D_ok dLw48_ok 1152 (.aload_n 0, 1) rfl
theorem dL_law_1153 : decode code 1153 = .ok (.iload_n 3, 1) := dk_D_ok dLw48_ok 1153 (.iload_n 3, 1) rfl
theorem dL_law_1154 : decode code 1154 = .ok (.iconst 1, 1) := dk_D_ok dLw48_ok 1154 (.iconst 1, 1) rfl
theorem dL_law_1155 : decode code 1155 = .ok (.iadd, 1) := dk_D_ok dLw48_ok 1155 (.iadd, 1) rfl
theorem dL_law_1156 : decode code 1156 = .ok (.iaload, 1) := dk_D_ok dLw48_ok 1156 (.iaload, 1) rfl
theorem dL_law_1157 : decode code 1157 = .ok (.aload_n 0, 1) := dk_D_ok dLw48_ok 1157 (.aload_n 0, 1) rfl
theorem dL_law_1158 : decode code 1158 = .ok (.iload_n 3, 1) := dk_D_ok dLw48_ok 1158 (.iload_n 3, 1) rfl
theorem dL_law_1159 : decode code 1159 = .ok (.iconst 2, 1) := dk_D_ok dLw48_ok 1159 (.iconst 2, 1) rfl
def dLw49 : List (Nat × Instr × Nat) := [(1160, .iadd, 1), (1161, .iaload, 1), (1162, .invokevirtual 154, 3), (1165, .pop, 1), (1166, .aload_n 2, 1), (1167, .aload_n 0, 1), (1168, .iload_n 3, 1), (1169, .iconst 1, 1), (1170, .iadd, 1), (1171, .iaload, 1), (1172, .aload_n 0, 1), (1173, .iload_n 3, 1), (1174, .iconst 2, 1), (1175, .iadd, 1), (1176, .iaload, 1), (1177, .invokevirtual 157, 3)]
theorem dLw49_ok : dLw49.all (dk_q code) = true := by decide +kernel
theorem dL_law_1160 : decode code 1160 = .ok (.iadd, 1) := dk_D_ok dLw49_ok 1160 (.iadd, 1) rfl
theorem dL_law_1161 : decode code 1161 = .ok (.iaload, 1) := dk_D_ok dLw49_ok 1161 (.iaload, 1) rfl
theorem dL_law_1162 : decode code 1162 = .ok (.invokevirtual 154, 3) := dk_D_ok dLw49_ok 1162 (.invokevirtual 154, 3) rfl
theorem dL_law_1165 : decode code 1165 = .ok (.pop, 1) := dk_D_ok dLw49_ok 1165 (.pop, 1) rfl
theorem dL_law_1166 : decode code 1166 = .ok (.aload_n 2, 1) := dk_D_ok dLw49_ok 1166 (.aload_n 2, 1) rfl
theorem dL_law_1167 : decode code 1167 = .ok (.aload_n 0, 1) := dk_D_ok dLw49_ok 1167 (.aload_n 0, 1) rfl
theorem dL_law_1168 : decode code 1168 = .ok (.iload_n 3, 1) := dk_D_ok dLw49_ok 1168 (.iload_n 3, 1) rfl
theorem dL_law_1169 : decode code 1169 = .ok (.iconst 1, 1) := dk_D_ok dLw49_ok 1169 (.iconst 1, 1) rfl
theorem dL_law_1170 : decode code 1170 = .ok (.iadd, 1) := dk_D_ok dLw49_ok 1170 (.iadd, 1) rfl
theorem dL_law_1171 : decode code 1171 = .ok (.iaload, 1) := dk_D_ok dLw49_ok 1171 (.iaload, 1) rfl
theorem dL_law_1172 : decode code 1172 = .ok (.aload_n 0, 1) := dk_D_ok dLw49_ok 1172 (.aload_n 0, 1) rfl
theorem dL_law_1173 : decode code 1173 = .ok (.iload_n 3, 1) := dk_D_ok dLw49_ok 1173 (.iload_n 3, 1) rfl
theorem dL_law_1174 : decode code 1174 = .ok (.iconst 2, 1) := dk_D_ok dLw49_ok 1174 (.iconst 2, 1) rfl
theorem dL_law_1175 : decode code 1175 = .ok (.iadd, 1) := dk_D_ok dLw49_ok 1175 (.iadd, 1) rfl
theorem dL_law_1176 : decode code 1176 = .ok (.iaload, 1) := dk_D_ok dLw49_ok 1176 (.iaload, 1) rfl
theorem dL_law_1177 : decode code 1177 = .ok (.invokevirtual 157, 3) := dk_D_ok dLw49_ok 1177 (.invokevirtual 157, 3) rfl
def dLw50 : List (Nat × Instr × Nat) := [(1180, .pop, 1), (1181, .goto 190, 3), (1184, .aload_n 1, 1), (1185, .aload_n 0, 1), (1186, .iload_n 3, 1), (1187, .iconst 1, 1), (1188, .iadd, 1), (1189, .iaload, 1), (1190, .aload_n 0, 1), (1191, .iload_n 3, 1), (1192, .iconst 2, 1), (1193, .iadd, 1), (1194, .iaload, 1), (1195, .ifCond .eq 7, 3), (1198, .iconst 1, 1), (1199, .goto 4, 3)]
theorem dLw50_ok : dLw50.all (s_Dc code) = true := (by decide +kernel)
theorem dL_law_1180 : decode code 1180 = .ok (.pop, 1) := dLw_s dLw50_ok 1180 (.pop, 1) rfl
theorem dL_law_1181 : decode code 1181 = .ok (.goto 190, 3) := dLw_s dLw50_ok 1181 (.goto 190, 3) rfl
theorem dL_law_1184 : decode code 1184 = .ok (.aload_n 1, 1) := dLw_s dLw50_ok 1184 (.aload_n 1, 1) rfl
theorem dL_law_1185 : decode code 1185 = .ok (.aload_n 0, 1) := dLw_s dLw50_ok 1185 (.aload_n 0, 1) rfl
theorem dL_law_1186 : decode code 1186 = .ok (.iload_n 3, 1) := dLw_s dLw50_ok 1186 (.iload_n 3, 1) rfl
theorem dL_law_1187 : decode code 1187 = .ok (.iconst 1, 1) := dLw_s dLw50_ok 1187 (.iconst 1, 1) rfl
theorem dL_law_1188 : decode code 1188 = .ok (.iadd, 1) := dLw_s dLw50_ok 1188 (.iadd, 1) rfl
theorem dL_law_1189 : decode code 1189 = .ok (.iaload, 1) := dLw_s dLw50_ok 1189 (.iaload, 1) rfl
theorem dL_law_1190 : decode code 1190 = .ok (.aload_n 0, 1) := dLw_s dLw50_ok 1190 (.aload_n 0, 1) rfl
theorem dL_law_1191 : decode code 1191 = .ok (.iload_n 3, 1) := dLw_s dLw50_ok 1191 (.iload_n 3, 1) rfl
theorem dL_law_1192 : decode code 1192 = .ok (.iconst 2, 1) := dLw_s dLw50_ok 1192 (.iconst 2, 1) rfl
theorem dL_law_1193 : decode code 1193 = .ok (.iadd, 1) := dLw_s dLw50_ok 1193 (.iadd, 1) rfl
theorem dL_law_1194 : decode code 1194 = .ok (.iaload, 1) := dLw_s dLw50_ok 1194 (.iaload, 1) rfl
theorem dL_law_1195 : decode code 1195 = .ok (.ifCond .eq 7, 3) := dLw_s dLw50_ok 1195 (.ifCond .eq 7, 3) rfl
theorem dL_law_1198 : decode code 1198 = .ok (.iconst 1, 1) := dLw_s dLw50_ok 1198 (.iconst 1, 1) rfl
theorem dL_law_1199 : decode code 1199 = .ok (.goto 4, 3) := dLw_s dLw50_ok 1199 (.goto 4, 3) rfl
def dLw51 : List (Nat × Instr × Nat) := [(1202, .iconst 0, 1), (1203, .invokevirtual 158, 3), (1206, .pop, 1), (1207, .aload_n 2, 1), (1208, .aload_n 0, 1), (1209, .iload_n 3, 1), (1210, .iconst 1, 1), (1211, .iadd, 1), (1212, .iaload, 1), (1213, .aload_n 0, 1), (1214, .iload_n 3, 1), (1215, .iconst 2, 1), (1216, .iadd, 1), (1217, .iaload, 1), (1218, .ifCond .eq 7, 3), (1221, .iconst 1, 1)]
theorem dLw51_ok : dLw51.all (s_Dc code) = true := (by decide +kernel)
theorem dL_law_1202 : decode code 1202 = .ok (.iconst 0, 1) := dLw_s dLw51_ok 1202 (.iconst 0, 1) rfl
theorem dL_law_1203 : decode code 1203 = .ok (.invokevirtual 158, 3) := dLw_s dLw51_ok 1203 (.invokevirtual 158, 3) rfl
theorem dL_law_1206 : decode code 1206 = .ok (.pop, 1) := dLw_s dLw51_ok 1206 (.pop, 1) rfl
theorem dL_law_1207 : decode code 1207 = .ok (.aload_n 2, 1) := dLw_s dLw51_ok 1207 (.aload_n 2, 1) rfl
theorem dL_law_1208 : decode code 1208 = .ok (.aload_n 0, 1) := dLw_s dLw51_ok 1208 (.aload_n 0, 1) rfl
theorem dL_law_1209 : decode code 1209 = .ok (.iload_n 3, 1) := dLw_s dLw51_ok 1209 (.iload_n 3, 1) rfl
theorem dL_law_1210 : decode code 1210 = .ok (.iconst 1, 1) := dLw_s dLw51_ok 1210 (.iconst 1, 1) rfl
theorem dL_law_1211 : decode code 1211 = .ok (.iadd, 1) := dLw_s dLw51_ok 1211 (.iadd, 1) rfl
theorem dL_law_1212 : decode code 1212 = .ok (.iaload, 1) := dLw_s dLw51_ok 1212 (.iaload, 1) rfl
theorem dL_law_1213 : decode code 1213 = .ok (.aload_n 0, 1) := dLw_s dLw51_ok 1213 (.aload_n 0, 1) rfl
theorem dL_law_1214 : decode code 1214 = .ok (.iload_n 3, 1) := dLw_s dLw51_ok 1214 (.iload_n 3, 1) rfl
theorem dL_law_1215 : decode code 1215 = .ok (.iconst 2, 1) := dLw_s dLw51_ok 1215 (.iconst 2, 1) rfl
theorem dL_law_1216 : decode code 1216 = .ok (.iadd, 1) := dLw_s dLw51_ok 1216 (.iadd, 1) rfl
theorem dL_law_1217 : decode code 1217 = .ok (.iaload, 1) := dLw_s dLw51_ok 1217 (.iaload, 1) rfl
theorem dL_law_1218 : decode code 1218 = .ok (.ifCond .eq 7, 3) := dLw_s dLw51_ok 1218 (.ifCond .eq 7, 3) rfl
theorem dL_law_1221 : decode code 1221 = .ok (.iconst 1, 1) := dLw_s dLw51_ok 1221 (.iconst 1, 1) rfl
def dLw52 : List (Nat × Instr × Nat) := [(1222, .goto 4, 3), (1225, .iconst 0, 1), (1226, .invokevirtual 162, 3), (1229, .pop, 1), (1230, .goto 141, 3), (1233, .aload_n 1, 1), (1234, .invokevirtual 163, 3), (1237, .pop, 1), (1238, .aload_n 2, 1), (1239, .invokevirtual 166, 3), (1242, .pop, 1), (1243, .goto 128, 3), (1246, .aload_n 1, 1), (1247, .aload_n 0, 1), (1248, .iload_n 3, 1), (1249, .iconst 1, 1)]
theorem dLw52_ok : dLw52.all (s_Dc code) = true := (by decide +kernel)
theorem dL_law_1222 : decode code 1222 = .ok (.goto 4, 3) := dLw_s dLw52_ok 1222 (.goto 4, 3) rfl
theorem dL_law_1225 : decode code 1225 = .ok (.iconst 0, 1) := dLw_s dLw52_ok 1225 (.iconst 0, 1) rfl
theorem dL_law_1226 : decode code 1226 = .ok (.invokevirtual 162, 3) := dLw_s dLw52_ok 1226 (.invokevirtual 162, 3) rfl
theorem dL_law_1229 : decode code 1229 = .ok (.pop, 1) := dLw_s dLw52_ok 1229 (.pop, 1) rfl
theorem dL_law_1230 : decode code 1230 = .ok (.goto 141, 3) := dLw_s dLw52_ok 1230 (.goto 141, 3) rfl
theorem dL_law_1233 : decode code 1233 = .ok (.aload_n 1, 1) := dLw_s dLw52_ok 1233 (.aload_n 1, 1) rfl
theorem dL_law_1234 : decode code 1234 = .ok (.invokevirtual 163, 3) := dLw_s dLw52_ok 1234 (.invokevirtual 163, 3) rfl
theorem dL_law_1237 : decode code 1237 = .ok (.pop, 1) := dLw_s dLw52_ok 1237 (.pop, 1) rfl
theorem dL_law_1238 : decode code 1238 = .ok (.aload_n 2, 1) := dLw_s dLw52_ok 1238 (.aload_n 2, 1) rfl
theorem dL_law_1239 : decode code 1239 = .ok (.invokevirtual 166, 3) := dLw_s dLw52_ok 1239 (.invokevirtual 166, 3) rfl
theorem dL_law_1242 : decode code 1242 = .ok (.pop, 1) := dLw_s dLw52_ok 1242 (.pop, 1) rfl
theorem dL_law_1243 : decode code 1243 = .ok (.goto 128, 3) := dLw_s dLw52_ok 1243 (.goto 128, 3) rfl
theorem dL_law_1246 : decode code 1246 = .ok (.aload_n 1, 1) := dLw_s dLw52_ok 1246 (.aload_n 1, 1) rfl
theorem dL_law_1247 : decode code 1247 = .ok (.aload_n 0, 1) := dLw_s dLw52_ok 1247 (.aload_n 0, 1) rfl
theorem dL_law_1248 : decode code 1248 = .ok (.iload_n 3, 1) := dLw_s dLw52_ok 1248 (.iload_n 3, 1) rfl
theorem dL_law_1249 : decode code 1249 = .ok (.iconst 1, 1) := dLw_s dLw52_ok 1249 (.iconst 1, 1) rfl
def dLw53 : List (Nat × Instr × Nat) := [(1250, .iadd, 1), (1251, .iaload, 1), (1252, .aload_n 0, 1), (1253, .iload_n 3, 1), (1254, .iconst 2, 1), (1255, .iadd, 1), (1256, .iaload, 1), (1257, .invokevirtual 167, 3), (1260, .pop, 1), (1261, .aload_n 2, 1), (1262, .aload_n 0, 1), (1263, .iload_n 3, 1), (1264, .iconst 1, 1), (1265, .iadd, 1), (1266, .iaload, 1), (1267, .aload_n 0, 1)]
theorem dLw53_ok : dLw53.all (s_Dc code) = true := (by decide +kernel)
theorem dL_law_1250 : decode code 1250 = .ok (.iadd, 1) := dLw_s dLw53_ok 1250 (.iadd, 1) rfl
theorem dL_law_1251 : decode code 1251 = .ok (.iaload, 1) := dLw_s dLw53_ok 1251 (.iaload, 1) rfl
theorem dL_law_1252 : decode code 1252 = .ok (.aload_n 0, 1) := dLw_s dLw53_ok 1252 (.aload_n 0, 1) rfl
theorem dL_law_1253 : decode code 1253 = .ok (.iload_n 3, 1) := dLw_s dLw53_ok 1253 (.iload_n 3, 1) rfl
theorem dL_law_1254 : decode code 1254 = .ok (.iconst 2, 1) := dLw_s dLw53_ok 1254 (.iconst 2, 1) rfl
theorem dL_law_1255 : decode code 1255 = .ok (.iadd, 1) := dLw_s dLw53_ok 1255 (.iadd, 1) rfl
theorem dL_law_1256 : decode code 1256 = .ok (.iaload, 1) := dLw_s dLw53_ok 1256 (.iaload, 1) rfl
theorem dL_law_1257 : decode code 1257 = .ok (.invokevirtual 167, 3) := dLw_s dLw53_ok 1257 (.invokevirtual 167, 3) rfl
theorem dL_law_1260 : decode code 1260 = .ok (.pop, 1) := dLw_s dLw53_ok 1260 (.pop, 1) rfl
theorem dL_law_1261 : decode code 1261 = .ok (.aload_n 2, 1) := dLw_s dLw53_ok 1261 (.aload_n 2, 1) rfl
theorem dL_law_1262 : decode code 1262 = .ok (.aload_n 0, 1) := dLw_s dLw53_ok 1262 (.aload_n 0, 1) rfl
theorem dL_law_1263 : decode code 1263 = .ok (.iload_n 3, 1) := dLw_s dLw53_ok 1263 (.iload_n 3, 1) rfl
theorem dL_law_1264 : decode code 1264 = .ok (.iconst 1, 1) := dLw_s dLw53_ok 1264 (.iconst 1, 1) rfl
theorem dL_law_1265 : decode code 1265 = .ok (.iadd, 1) := dLw_s dLw53_ok 1265 (.iadd, 1) rfl
theorem dL_law_1266 : decode code 1266 = .ok (.iaload, 1) := dLw_s dLw53_ok 1266 (.iaload, 1) rfl
theorem dL_law_1267 : decode code 1267 = .ok (.aload_n 0, 1) := dLw_s dLw53_ok 1267 (.aload_n 0, 1) rfl
def dLw54 : List (Nat × Instr × Nat) := [(1268, .iload_n 3, 1), (1269, .iconst 2, 1), (1270, .iadd, 1), (1271, .iaload, 1), (1272, .invokevirtual 170, 3), (1275, .pop, 1), (1276, .goto 95, 3), (1279, .aload_n 1, 1), (1280, .aload_n 0, 1), (1281, .iload_n 3, 1), (1282, .iconst 1, 1), (1283, .iadd, 1), (1284, .iaload, 1), (1285, .invokevirtual 171, 3), (1288, .aload_n 2, 1), (1289, .aload_n 0, 1)]
theorem dLw54_ok : dLw54.all (s_Dc code) = true := (by decide +kernel)
theorem dL_law_1268 : decode code 1268 = .ok (.iload_n 3, 1) := dLw_s dLw54_ok 1268 (.iload_n 3, 1) rfl
theorem dL_law_1269 : decode code 1269 = .ok (.iconst 2, 1) := dLw_s dLw54_ok 1269 (.iconst 2, 1) rfl
theorem dL_law_1270 : decode code 1270 = .ok (.iadd, 1) := dLw_s dLw54_ok 1270 (.iadd, 1) rfl
theorem dL_law_1271 : decode code 1271 = .ok (.iaload, 1) := dLw_s dLw54_ok 1271 (.iaload, 1) rfl
theorem dL_law_1272 : decode code 1272 = .ok (.invokevirtual 170, 3) := dLw_s dLw54_ok 1272 (.invokevirtual 170, 3) rfl
theorem dL_law_1275 : decode code 1275 = .ok (.pop, 1) := dLw_s dLw54_ok 1275 (.pop, 1) rfl
theorem dL_law_1276 : decode code 1276 = .ok (.goto 95, 3) := dLw_s dLw54_ok 1276 (.goto 95, 3) rfl
theorem dL_law_1279 : decode code 1279 = .ok (.aload_n 1, 1) := dLw_s dLw54_ok 1279 (.aload_n 1, 1) rfl
theorem dL_law_1280 : decode code 1280 = .ok (.aload_n 0, 1) := dLw_s dLw54_ok 1280 (.aload_n 0, 1) rfl
theorem dL_law_1281 : decode code 1281 = .ok (.iload_n 3, 1) := dLw_s dLw54_ok 1281 (.iload_n 3, 1) rfl
theorem dL_law_1282 : decode code 1282 = .ok (.iconst 1, 1) := dLw_s dLw54_ok 1282 (.iconst 1, 1) rfl
theorem dL_law_1283 : decode code 1283 = .ok (.iadd, 1) := dLw_s dLw54_ok 1283 (.iadd, 1) rfl
theorem dL_law_1284 : decode code 1284 = .ok (.iaload, 1) := dLw_s dLw54_ok 1284 (.iaload, 1) rfl
theorem dL_law_1285 : decode code 1285 = .ok (.invokevirtual 171, 3) := dLw_s dLw54_ok 1285 (.invokevirtual 171, 3) rfl
theorem dL_law_1288 : decode code 1288 = .ok (.aload_n 2, 1) := dLw_s dLw54_ok 1288 (.aload_n 2, 1) rfl
theorem dL_law_1289 : decode code 1289 = .ok (.aload_n 0, 1) := dLw_s dLw54_ok 1289 (.aload_n 0, 1) rfl
def dLw55 : List (Nat × Instr × Nat) := [(1290, .iload_n 3, 1), (1291, .iconst 1, 1), (1292, .iadd, 1), (1293, .iaload, 1), (1294, .invokevirtual 174, 3), (1297, .if_icmp .eq 74, 3), (1300, .iconst 0, 1), (1301, .ireturn, 1), (1302, .aload_n 1, 1), (1303, .aload_n 0, 1), (1304, .iload_n 3, 1), (1305, .iconst 1, 1), (1306, .iadd, 1), (1307, .iaload, 1), (1308, .invokevirtual 175, 3), (1311, .pop, 1)]
theorem dLw55_ok : dLw55.all (s_Dc code) = true := (by decide +kernel)
theorem dL_law_1290 : decode code 1290 = .ok (.iload_n 3, 1) := dLw_s dLw55_ok 1290 (.iload_n 3, 1) rfl
theorem dL_law_1291 : decode code 1291 = .ok (.iconst 1, 1) := dLw_s dLw55_ok 1291 (.iconst 1, 1) rfl
theorem dL_law_1292 : decode code 1292 = .ok (.iadd, 1) := dLw_s dLw55_ok 1292 (.iadd, 1) rfl
theorem dL_law_1293 : decode code 1293 = .ok (.iaload, 1) := dLw_s dLw55_ok 1293 (.iaload, 1) rfl
theorem dL_law_1294 : decode code 1294 = .ok (.invokevirtual 174, 3) := dLw_s dLw55_ok 1294 (.invokevirtual 174, 3) rfl
theorem dL_law_1297 : decode code 1297 = .ok (.if_icmp .eq 74, 3) := dLw_s dLw55_ok 1297 (.if_icmp .eq 74, 3) rfl
theorem dL_law_1300 : decode code 1300 = .ok (.iconst 0, 1) := dLw_s dLw55_ok 1300 (.iconst 0, 1) rfl
theorem dL_law_1301 : decode code 1301 = .ok (.ireturn, 1) := dLw_s dLw55_ok 1301 (.ireturn, 1) rfl
theorem dL_law_1302 : decode code 1302 = .ok (.aload_n 1, 1) := dLw_s dLw55_ok 1302 (.aload_n 1, 1) rfl
theorem dL_law_1303 : decode code 1303 = .ok (.aload_n 0, 1) := dLw_s dLw55_ok 1303 (.aload_n 0, 1) rfl
theorem dL_law_1304 : decode code 1304 = .ok (.iload_n 3, 1) := dLw_s dLw55_ok 1304 (.iload_n 3, 1) rfl
theorem dL_law_1305 : decode code 1305 = .ok (.iconst 1, 1) := dLw_s dLw55_ok 1305 (.iconst 1, 1) rfl
theorem dL_law_1306 : decode code 1306 = .ok (.iadd, 1) := dLw_s dLw55_ok 1306 (.iadd, 1) rfl
theorem dL_law_1307 : decode code 1307 = .ok (.iaload, 1) := dLw_s dLw55_ok 1307 (.iaload, 1) rfl
theorem dL_law_1308 : decode code 1308 = .ok (.invokevirtual 175, 3) := dLw_s dLw55_ok 1308 (.invokevirtual 175, 3) rfl
theorem dL_law_1311 : decode code 1311 = .ok (.pop, 1) := dLw_s dLw55_ok 1311 (.pop, 1) rfl
def dLw56 : List (Nat × Instr × Nat) := [(1312, .aload_n 2, 1), (1313, .aload_n 0, 1), (1314, .iload_n 3, 1), (1315, .iconst 1, 1), (1316, .iadd, 1), (1317, .iaload, 1), (1318, .invokevirtual 178, 3), (1321, .pop, 1), (1322, .goto 49, 3), (1325, .aload_n 1, 1), (1326, .aload_n 0, 1), (1327, .iload_n 3, 1), (1328, .iconst 1, 1), (1329, .iadd, 1), (1330, .iaload, 1), (1331, .invokevirtual 179, 3)]
theorem dLw56_ok : dLw56.all (s_Dc code) = true := (by decide +kernel)
theorem dL_law_1312 : decode code 1312 = .ok (.aload_n 2, 1) := dLw_s dLw56_ok 1312 (.aload_n 2, 1) rfl
theorem dL_law_1313 : decode code 1313 = .ok (.aload_n 0, 1) := dLw_s dLw56_ok 1313 (.aload_n 0, 1) rfl
theorem dL_law_1314 : decode code 1314 = .ok (.iload_n 3, 1) := dLw_s dLw56_ok 1314 (.iload_n 3, 1) rfl
theorem dL_law_1315 : decode code 1315 = .ok (.iconst 1, 1) := dLw_s dLw56_ok 1315 (.iconst 1, 1) rfl
theorem dL_law_1316 : decode code 1316 = .ok (.iadd, 1) := dLw_s dLw56_ok 1316 (.iadd, 1) rfl
theorem dL_law_1317 : decode code 1317 = .ok (.iaload, 1) := dLw_s dLw56_ok 1317 (.iaload, 1) rfl
theorem dL_law_1318 : decode code 1318 = .ok (.invokevirtual 178, 3) := dLw_s dLw56_ok 1318 (.invokevirtual 178, 3) rfl
theorem dL_law_1321 : decode code 1321 = .ok (.pop, 1) := dLw_s dLw56_ok 1321 (.pop, 1) rfl
theorem dL_law_1322 : decode code 1322 = .ok (.goto 49, 3) := dLw_s dLw56_ok 1322 (.goto 49, 3) rfl
theorem dL_law_1325 : decode code 1325 = .ok (.aload_n 1, 1) := dLw_s dLw56_ok 1325 (.aload_n 1, 1) rfl
theorem dL_law_1326 : decode code 1326 = .ok (.aload_n 0, 1) := dLw_s dLw56_ok 1326 (.aload_n 0, 1) rfl
theorem dL_law_1327 : decode code 1327 = .ok (.iload_n 3, 1) := dLw_s dLw56_ok 1327 (.iload_n 3, 1) rfl
theorem dL_law_1328 : decode code 1328 = .ok (.iconst 1, 1) := dLw_s dLw56_ok 1328 (.iconst 1, 1) rfl
theorem dL_law_1329 : decode code 1329 = .ok (.iadd, 1) := dLw_s dLw56_ok 1329 (.iadd, 1) rfl
theorem dL_law_1330 : decode code 1330 = .ok (.iaload, 1) := dLw_s dLw56_ok 1330 (.iaload, 1) rfl
theorem dL_law_1331 : decode code 1331 = .ok (.invokevirtual 179, 3) := dLw_s dLw56_ok 1331 (.invokevirtual 179, 3) rfl
def dLw57 : List (Nat × Instr × Nat) := [(1334, .pop, 1), (1335, .aload_n 2, 1), (1336, .aload_n 0, 1), (1337, .iload_n 3, 1), (1338, .iconst 1, 1), (1339, .iadd, 1), (1340, .iaload, 1), (1341, .invokevirtual 182, 3), (1344, .pop, 1), (1345, .goto 26, 3), (1348, .aload_n 1, 1), (1349, .aload_n 0, 1), (1350, .iload_n 3, 1), (1351, .iconst 1, 1), (1352, .iadd, 1), (1353, .iaload, 1)]
theorem dLw57_ok : dLw57.all (s_Dc code) = true := (by decide +kernel)
theorem dL_law_1334 : decode code 1334 = .ok (.pop, 1) := dLw_s dLw57_ok 1334 (.pop, 1) rfl
theorem dL_law_1335 : decode code 1335 = .ok (.aload_n 2, 1) := dLw_s dLw57_ok 1335 (.aload_n 2, 1) rfl
theorem dL_law_1336 : decode code 1336 = .ok (.aload_n 0, 1) := dLw_s dLw57_ok 1336 (.aload_n 0, 1) rfl
theorem dL_law_1337 : decode code 1337 = .ok (.iload_n 3, 1) := dLw_s dLw57_ok 1337 (.iload_n 3, 1) rfl
theorem dL_law_1338 : decode code 1338 = .ok (.iconst 1, 1) := dLw_s dLw57_ok 1338 (.iconst 1, 1) rfl
theorem dL_law_1339 : decode code 1339 = .ok (.iadd, 1) := dLw_s dLw57_ok 1339 (.iadd, 1) rfl
theorem dL_law_1340 : decode code 1340 = .ok (.iaload, 1) := dLw_s dLw57_ok 1340 (.iaload, 1) rfl
theorem dL_law_1341 : decode code 1341 = .ok (.invokevirtual 182, 3) := dLw_s dLw57_ok 1341 (.invokevirtual 182, 3) rfl
theorem dL_law_1344 : decode code 1344 = .ok (.pop, 1) := dLw_s dLw57_ok 1344 (.pop, 1) rfl
theorem dL_law_1345 : decode code 1345 = .ok (.goto 26, 3) := dLw_s dLw57_ok 1345 (.goto 26, 3) rfl
theorem dL_law_1348 : decode code 1348 = .ok (.aload_n 1, 1) := dLw_s dLw57_ok 1348 (.aload_n 1, 1) rfl
theorem dL_law_1349 : decode code 1349 = .ok (.aload_n 0, 1) := dLw_s dLw57_ok 1349 (.aload_n 0, 1) rfl
theorem dL_law_1350 : decode code 1350 = .ok (.iload_n 3, 1) := dLw_s dLw57_ok 1350 (.iload_n 3, 1) rfl
theorem dL_law_1351 : decode code 1351 = .ok (.iconst 1, 1) := dLw_s dLw57_ok 1351 (.iconst 1, 1) rfl
theorem dL_law_1352 : decode code 1352 = .ok (.iadd, 1) := dLw_s dLw57_ok 1352 (.iadd, 1) rfl
theorem dL_law_1353 : decode code 1353 = .ok (.iaload, 1) := dLw_s dLw57_ok 1353 (.iaload, 1) rfl
def dLw58 : List (Nat × Instr × Nat) := [(1354, .invokevirtual 183, 3), (1357, .pop, 1), (1358, .aload_n 2, 1), (1359, .aload_n 0, 1), (1360, .iload_n 3, 1), (1361, .iconst 1, 1), (1362, .iadd, 1), (1363, .iaload, 1), (1364, .invokevirtual 186, 3), (1367, .pop, 1), (1368, .goto 3, 3), (1371, .iinc 3 6, 3), (1374, .goto (-1356), 3), (1377, .iconst 1, 1), (1378, .ireturn, 1)]
theorem dLw58_ok : dLw58.all (s_Dc code) = true := (by decide +kernel)
theorem dL_law_1354 : decode code 1354 = .ok (.invokevirtual 183, 3) := dLw_s dLw58_ok 1354 (.invokevirtual 183, 3) rfl
theorem dL_law_1357 : decode code 1357 = .ok (.pop, 1) := dLw_s dLw58_ok 1357 (.pop, 1) rfl
theorem dL_law_1358 : decode code 1358 = .ok (.aload_n 2, 1) := dLw_s dLw58_ok 1358 (.aload_n 2, 1) rfl
theorem dL_law_1359 : decode code 1359 = .ok (.aload_n 0, 1) := dLw_s dLw58_ok 1359 (.aload_n 0, 1) rfl
theorem dL_law_1360 : decode code 1360 = .ok (.iload_n 3, 1) := dLw_s dLw58_ok 1360 (.iload_n 3, 1) rfl
theorem dL_law_1361 : decode code 1361 = .ok (.iconst 1, 1) := dLw_s dLw58_ok 1361 (.iconst 1, 1) rfl
theorem dL_law_1362 : decode code 1362 = .ok (.iadd, 1) := dLw_s dLw58_ok 1362 (.iadd, 1) rfl
theorem dL_law_1363 : decode code 1363 = .ok (.iaload, 1) := dLw_s dLw58_ok 1363 (.iaload, 1) rfl
theorem dL_law_1364 : decode code 1364 = .ok (.invokevirtual 186, 3) := dLw_s dLw58_ok 1364 (.invokevirtual 186, 3) rfl
theorem dL_law_1367 : decode code 1367 = .ok (.pop, 1) := dLw_s dLw58_ok 1367 (.pop, 1) rfl
theorem dL_law_1368 : decode code 1368 = .ok (.goto 3, 3) := dLw_s dLw58_ok 1368 (.goto 3, 3) rfl
theorem dL_law_1371 : decode code 1371 = .ok (.iinc 3 6, 3) := dLw_s dLw58_ok 1371 (.iinc 3 6, 3) rfl
theorem dL_law_1374 : decode code 1374 = .ok (.goto (-1356), 3) := dLw_s dLw58_ok 1374 (.goto (-1356), 3) rfl
theorem dL_law_1377 : decode code 1377 = .ok (.iconst 1, 1) := dLw_s dLw58_ok 1377 (.iconst 1, 1) rfl
theorem dL_law_1378 : decode code 1378 = .ok (.ireturn, 1) := dLw_s dLw58_ok 1378 (.ireturn, 1) rfl
