/-! the law's code, row by row (3) -/
theorem tdl_748 : decode code 748 = .ok (.pop, 1) := by decide +kernel
theorem tdl_749 : decode code 749 = .ok (.aload_n 2, 1) := by decide +kernel
theorem tdl_750 : decode code 750 = .ok (.aload_n 0, 1) := by decide +kernel
theorem tdl_751 : decode code 751 = .ok (.iload_n 3, 1) := by decide +kernel
theorem tdl_752 : decode code 752 = .ok (.iconst 1, 1) := by decide +kernel
theorem tdl_753 : decode code 753 = .ok (.iadd, 1) := by decide +kernel
theorem tdl_754 : decode code 754 = .ok (.iaload, 1) := by decide +kernel
theorem tdl_755 : decode code 755 = .ok (.aload_n 0, 1) := by decide +kernel
theorem tdl_756 : decode code 756 = .ok (.iload_n 3, 1) := by decide +kernel
theorem tdl_757 : decode code 757 = .ok (.iconst 2, 1) := by decide +kernel
theorem tdl_758 : decode code 758 = .ok (.iadd, 1) := by decide +kernel
theorem tdl_759 : decode code 759 = .ok (.iaload, 1) := by decide +kernel
theorem tdl_760 : decode code 760 = .ok (.invokevirtual 80, 3) := by decide +kernel
theorem tdl_763 : decode code 763 = .ok (.pop, 1) := by decide +kernel
theorem tdl_764 : decode code 764 = .ok (.goto 596, 3) := by decide +kernel
theorem tdl_767 : decode code 767 = .ok (.aload_n 1, 1) := by decide +kernel
theorem tdl_768 : decode code 768 = .ok (.aload_n 0, 1) := by decide +kernel
theorem tdl_769 : decode code 769 = .ok (.iload_n 3, 1) := by decide +kernel
theorem tdl_770 : decode code 770 = .ok (.iconst 1, 1) := by decide +kernel
theorem tdl_771 : decode code 771 = .ok (.iadd, 1) := by decide +kernel
theorem tdl_772 : decode code 772 = .ok (.iaload, 1) := by decide +kernel
theorem tdl_773 : decode code 773 = .ok (.aload_n 0, 1) := by decide +kernel
theorem tdl_774 : decode code 774 = .ok (.iload_n 3, 1) := by decide +kernel
theorem tdl_775 : decode code 775 = .ok (.iconst 2, 1) := by decide +kernel
theorem tdl_776 : decode code 776 = .ok (.iadd, 1) := by decide +kernel
theorem tdl_777 : decode code 777 = .ok (.iaload, 1) := by decide +kernel
theorem tdl_778 : decode code 778 = .ok (.invokevirtual 81, 3) := by decide +kernel
theorem tdl_781 : decode code 781 = .ok (.pop, 1) := by decide +kernel
theorem tdl_782 : decode code 782 = .ok (.aload_n 2, 1) := by decide +kernel
theorem tdl_783 : decode code 783 = .ok (.aload_n 0, 1) := by decide +kernel
theorem tdl_784 : decode code 784 = .ok (.iload_n 3, 1) := by decide +kernel
theorem tdl_785 : decode code 785 = .ok (.iconst 1, 1) := by decide +kernel
theorem tdl_786 : decode code 786 = .ok (.iadd, 1) := by decide +kernel
theorem tdl_787 : decode code 787 = .ok (.iaload, 1) := by decide +kernel
theorem tdl_788 : decode code 788 = .ok (.aload_n 0, 1) := by decide +kernel
theorem tdl_789 : decode code 789 = .ok (.iload_n 3, 1) := by decide +kernel
theorem tdl_790 : decode code 790 = .ok (.iconst 2, 1) := by decide +kernel
theorem tdl_791 : decode code 791 = .ok (.iadd, 1) := by decide +kernel
theorem tdl_792 : decode code 792 = .ok (.iaload, 1) := by decide +kernel
theorem tdl_793 : decode code 793 = .ok (.invokevirtual 84, 3) := by decide +kernel
theorem tdl_796 : decode code 796 = .ok (.pop, 1) := by decide +kernel
theorem tdl_797 : decode code 797 = .ok (.goto 563, 3) := by decide +kernel
theorem tdl_800 : decode code 800 = .ok (.aload_n 1, 1) := by decide +kernel
theorem tdl_801 : decode code 801 = .ok (.invokevirtual 85, 3) := by decide +kernel
theorem tdl_804 : decode code 804 = .ok (.pop, 1) := by decide +kernel
theorem tdl_805 : decode code 805 = .ok (.aload_n 2, 1) := by decide +kernel
theorem tdl_806 : decode code 806 = .ok (.invokevirtual 89, 3) := by decide +kernel
theorem tdl_809 : decode code 809 = .ok (.pop, 1) := by decide +kernel
theorem tdl_810 : decode code 810 = .ok (.goto 550, 3) := by decide +kernel
theorem tdl_813 : decode code 813 = .ok (.aload_n 1, 1) := by decide +kernel
theorem tdl_814 : decode code 814 = .ok (.aload_n 0, 1) := by decide +kernel
theorem tdl_815 : decode code 815 = .ok (.iload_n 3, 1) := by decide +kernel
theorem tdl_816 : decode code 816 = .ok (.iconst 1, 1) := by decide +kernel
theorem tdl_817 : decode code 817 = .ok (.iadd, 1) := by decide +kernel
theorem tdl_818 : decode code 818 = .ok (.iaload, 1) := by decide +kernel
theorem tdl_819 : decode code 819 = .ok (.aload_n 0, 1) := by decide +kernel
theorem tdl_820 : decode code 820 = .ok (.iload_n 3, 1) := by decide +kernel
theorem tdl_821 : decode code 821 = .ok (.iconst 2, 1) := by decide +kernel
theorem tdl_822 : decode code 822 = .ok (.iadd, 1) := by decide +kernel
theorem tdl_823 : decode code 823 = .ok (.iaload, 1) := by decide +kernel
theorem tdl_824 : decode code 824 = .ok (.invokevirtual 90, 3) := by decide +kernel
theorem tdl_827 : decode code 827 = .ok (.pop, 1) := by decide +kernel
theorem tdl_828 : decode code 828 = .ok (.aload_n 2, 1) := by decide +kernel
theorem tdl_829 : decode code 829 = .ok (.aload_n 0, 1) := by decide +kernel
theorem tdl_830 : decode code 830 = .ok (.iload_n 3, 1) := by decide +kernel
theorem tdl_831 : decode code 831 = .ok (.iconst 1, 1) := by decide +kernel
theorem tdl_832 : decode code 832 = .ok (.iadd, 1) := by decide +kernel
theorem tdl_833 : decode code 833 = .ok (.iaload, 1) := by decide +kernel
theorem tdl_834 : decode code 834 = .ok (.aload_n 0, 1) := by decide +kernel
theorem tdl_835 : decode code 835 = .ok (.iload_n 3, 1) := by decide +kernel
theorem tdl_836 : decode code 836 = .ok (.iconst 2, 1) := by decide +kernel
theorem tdl_837 : decode code 837 = .ok (.iadd, 1) := by decide +kernel
theorem tdl_838 : decode code 838 = .ok (.iaload, 1) := by decide +kernel
theorem tdl_839 : decode code 839 = .ok (.invokevirtual 94, 3) := by decide +kernel
theorem tdl_842 : decode code 842 = .ok (.pop, 1) := by decide +kernel
theorem tdl_843 : decode code 843 = .ok (.goto 517, 3) := by decide +kernel
theorem tdl_846 : decode code 846 = .ok (.aload_n 1, 1) := by decide +kernel
theorem tdl_847 : decode code 847 = .ok (.aload_n 0, 1) := by decide +kernel
theorem tdl_848 : decode code 848 = .ok (.iload_n 3, 1) := by decide +kernel
theorem tdl_849 : decode code 849 = .ok (.iconst 1, 1) := by decide +kernel
theorem tdl_850 : decode code 850 = .ok (.iadd, 1) := by decide +kernel
theorem tdl_851 : decode code 851 = .ok (.iaload, 1) := by decide +kernel
theorem tdl_852 : decode code 852 = .ok (.invokevirtual 95, 3) := by decide +kernel
theorem tdl_855 : decode code 855 = .ok (.pop, 1) := by decide +kernel
theorem tdl_856 : decode code 856 = .ok (.aload_n 2, 1) := by decide +kernel
theorem tdl_857 : decode code 857 = .ok (.aload_n 0, 1) := by decide +kernel
theorem tdl_858 : decode code 858 = .ok (.iload_n 3, 1) := by decide +kernel
theorem tdl_859 : decode code 859 = .ok (.iconst 1, 1) := by decide +kernel
theorem tdl_860 : decode code 860 = .ok (.iadd, 1) := by decide +kernel
theorem tdl_861 : decode code 861 = .ok (.iaload, 1) := by decide +kernel
theorem tdl_862 : decode code 862 = .ok (.invokevirtual 98, 3) := by decide +kernel
theorem tdl_865 : decode code 865 = .ok (.pop, 1) := by decide +kernel
theorem tdl_866 : decode code 866 = .ok (.goto 494, 3) := by decide +kernel
theorem tdl_869 : decode code 869 = .ok (.aload_n 1, 1) := by decide +kernel
theorem tdl_870 : decode code 870 = .ok (.aload_n 0, 1) := by decide +kernel
theorem tdl_871 : decode code 871 = .ok (.iload_n 3, 1) := by decide +kernel
theorem tdl_872 : decode code 872 = .ok (.iconst 1, 1) := by decide +kernel
theorem tdl_873 : decode code 873 = .ok (.iadd, 1) := by decide +kernel
theorem tdl_874 : decode code 874 = .ok (.iaload, 1) := by decide +kernel
theorem tdl_875 : decode code 875 = .ok (.aload_n 0, 1) := by decide +kernel
theorem tdl_876 : decode code 876 = .ok (.iload_n 3, 1) := by decide +kernel
theorem tdl_877 : decode code 877 = .ok (.iconst 2, 1) := by decide +kernel
theorem tdl_878 : decode code 878 = .ok (.iadd, 1) := by decide +kernel
theorem tdl_879 : decode code 879 = .ok (.iaload, 1) := by decide +kernel
theorem tdl_880 : decode code 880 = .ok (.invokevirtual 99, 3) := by decide +kernel
theorem tdl_883 : decode code 883 = .ok (.pop, 1) := by decide +kernel
theorem tdl_884 : decode code 884 = .ok (.aload_n 2, 1) := by decide +kernel
theorem tdl_885 : decode code 885 = .ok (.aload_n 0, 1) := by decide +kernel
theorem tdl_886 : decode code 886 = .ok (.iload_n 3, 1) := by decide +kernel
theorem tdl_887 : decode code 887 = .ok (.iconst 1, 1) := by decide +kernel
theorem tdl_888 : decode code 888 = .ok (.iadd, 1) := by decide +kernel
theorem tdl_889 : decode code 889 = .ok (.iaload, 1) := by decide +kernel
theorem tdl_890 : decode code 890 = .ok (.aload_n 0, 1) := by decide +kernel
theorem tdl_891 : decode code 891 = .ok (.iload_n 3, 1) := by decide +kernel
theorem tdl_892 : decode code 892 = .ok (.iconst 2, 1) := by decide +kernel
theorem tdl_893 : decode code 893 = .ok (.iadd, 1) := by decide +kernel
theorem tdl_894 : decode code 894 = .ok (.iaload, 1) := by decide +kernel
theorem tdl_895 : decode code 895 = .ok (.invokevirtual 102, 3) := by decide +kernel
theorem tdl_898 : decode code 898 = .ok (.pop, 1) := by decide +kernel
theorem tdl_899 : decode code 899 = .ok (.goto 461, 3) := by decide +kernel
theorem tdl_902 : decode code 902 = .ok (.aload_n 1, 1) := by decide +kernel
theorem tdl_903 : decode code 903 = .ok (.aload_n 0, 1) := by decide +kernel
theorem tdl_904 : decode code 904 = .ok (.iload_n 3, 1) := by decide +kernel
theorem tdl_905 : decode code 905 = .ok (.iconst 1, 1) := by decide +kernel
theorem tdl_906 : decode code 906 = .ok (.iadd, 1) := by decide +kernel
theorem tdl_907 : decode code 907 = .ok (.iaload, 1) := by decide +kernel
theorem tdl_908 : decode code 908 = .ok (.aload_n 0, 1) := by decide +kernel
theorem tdl_909 : decode code 909 = .ok (.iload_n 3, 1) := by decide +kernel
theorem tdl_910 : decode code 910 = .ok (.iconst 2, 1) := by decide +kernel
theorem tdl_911 : decode code 911 = .ok (.iadd, 1) := by decide +kernel
theorem tdl_912 : decode code 912 = .ok (.iaload, 1) := by decide +kernel
theorem tdl_913 : decode code 913 = .ok (.aload_n 0, 1) := by decide +kernel
theorem tdl_914 : decode code 914 = .ok (.iload_n 3, 1) := by decide +kernel
theorem tdl_915 : decode code 915 = .ok (.iconst 3, 1) := by decide +kernel
theorem tdl_916 : decode code 916 = .ok (.iadd, 1) := by decide +kernel
theorem tdl_917 : decode code 917 = .ok (.iaload, 1) := by decide +kernel
theorem tdl_918 : decode code 918 = .ok (.invokevirtual 103, 3) := by decide +kernel
theorem tdl_921 : decode code 921 = .ok (.pop, 1) := by decide +kernel
theorem tdl_922 : decode code 922 = .ok (.aload_n 2, 1) := by decide +kernel
theorem tdl_923 : decode code 923 = .ok (.aload_n 0, 1) := by decide +kernel
theorem tdl_924 : decode code 924 = .ok (.iload_n 3, 1) := by decide +kernel
theorem tdl_925 : decode code 925 = .ok (.iconst 1, 1) := by decide +kernel
theorem tdl_926 : decode code 926 = .ok (.iadd, 1) := by decide +kernel
theorem tdl_927 : decode code 927 = .ok (.iaload, 1) := by decide +kernel
theorem tdl_928 : decode code 928 = .ok (.aload_n 0, 1) := by decide +kernel
theorem tdl_929 : decode code 929 = .ok (.iload_n 3, 1) := by decide +kernel
theorem tdl_930 : decode code 930 = .ok (.iconst 2, 1) := by decide +kernel
theorem tdl_931 : decode code 931 = .ok (.iadd, 1) := by decide +kernel
theorem tdl_932 : decode code 932 = .ok (.iaload, 1) := by decide +kernel
theorem tdl_933 : decode code 933 = .ok (.aload_n 0, 1) := by decide +kernel
theorem tdl_934 : decode code 934 = .ok (.iload_n 3, 1) := by decide +kernel
theorem tdl_935 : decode code 935 = .ok (.iconst 3, 1) := by decide +kernel
theorem tdl_936 : decode code 936 = .ok (.iadd, 1) := by decide +kernel
theorem tdl_937 : decode code 937 = .ok (.iaload, 1) := by decide +kernel
theorem tdl_938 : decode code 938 = .ok (.invokevirtual 106, 3) := by decide +kernel
theorem tdl_941 : decode code 941 = .ok (.pop, 1) := by decide +kernel
theorem tdl_942 : decode code 942 = .ok (.goto 418, 3) := by decide +kernel
theorem tdl_945 : decode code 945 = .ok (.aload_n 1, 1) := by decide +kernel
theorem tdl_946 : decode code 946 = .ok (.aload_n 0, 1) := by decide +kernel
theorem tdl_947 : decode code 947 = .ok (.iload_n 3, 1) := by decide +kernel
theorem tdl_948 : decode code 948 = .ok (.iconst 1, 1) := by decide +kernel
theorem tdl_949 : decode code 949 = .ok (.iadd, 1) := by decide +kernel
